def passS (s : Hl) (v : Int) : Out := if 1 ≤ v ∧ v ≤ 300 then (if s.min + v ≤ 9999 then (0, s.min + v, s.sMin (s.min + v)) else (2, 0, s)) else (1, 0, s)
def Pb.sPts (b : Pb) (f : Nat → Int) : Pb := mkPb b.lim b.chk b.ver b.sol b.nt b.tr f
def Hl.sP1 (s : Hl) (i : Nat) (b : Pb) : Hl := s.sPb s.np (updf s.pb i b)
def Hl.sE1 (s : Hl) (e : Nat) (n : En) : Hl := s.sEn s.ne (updf s.en e n)
def pointsS (s : Hl) (p g v : Int) : Out := if 0 ≤ p ∧ p < (s.np : Int) then (if 0 ≤ g ∧ g < 4 then (if 0 ≤ v ∧ v ≤ 100 then (0, (s.pb p.toNat).pts g.toNat, s.sP1 p.toNat ((s.pb p.toNat).sPts (updf (s.pb p.toNat).pts g.toNat v))) else (1, 0, s)) else (3, 0, s)) else (3, 0, s)
def entryV (n : En) (w : Int) : Int := if w = 0 then n.vd else if w = 1 then n.fl else if w = 2 then n.sc else if w = 3 then n.jb else if w = 4 then (n.team : Int) else if w = 5 then (n.prob : Int) else n.whn
def entryS (s : Hl) (e w : Int) : Out := if 0 ≤ e ∧ e < (s.ne : Int) then (if 0 ≤ w ∧ w ≤ 6 then (0, entryV (s.en e.toNat) w, s) else (1, 0, s)) else (3, 0, s)
def answerS (s : Hl) (p t k : Int) : Out := if 0 ≤ p ∧ p < (s.np : Int) then (if 0 ≤ t ∧ t < ((s.pb p.toNat).nt : Int) then (if 0 ≤ k then (0, if k < (((s.pb p.toNat).ans t.toNat).1 : Int) then ((s.pb p.toNat).ans t.toNat).2 k.toNat else 0, s) else (3, 0, s)) else (3, 0, s)) else (3, 0, s)
def freezeS (s : Hl) (v : Int) : Out := if -1 ≤ v ∧ v ≤ 9999 then (0, 0, s.sFrz v (fun _ => 0)) else (1, 0, s)
theorem passS_ok {s : Hl} (h : s.ok) {v : Int} : (passS s v).2.2.ok := by
  unfold passS
  obtain ⟨h1, h2, h3, h4, h5, h6, h7, h8⟩ := h
  split
  · split
    · exact ⟨h1, h2, h3, h4, h5, h6, ⟨by show 0 ≤ s.min + v; omega, by show s.min + v ≤ 9999; omega⟩, h8⟩
    · exact ⟨h1, h2, h3, h4, h5, h6, h7, h8⟩
  · exact ⟨h1, h2, h3, h4, h5, h6, h7, h8⟩
theorem Hl.p1_ok {s : Hl} (h : s.ok) {i : Nat} {b : Pb} (hb : b.ok) : (s.sP1 i b).ok := by
  obtain ⟨h1, h2, h3, h4, h5⟩ := h
  refine ⟨h1, h2, h3, fun j hj => ?_, h5⟩
  show (updf s.pb i b j).ok
  unfold updf
  split
  · exact hb
  · exact h4 j hj
theorem Hl.e1_ok {s : Hl} (h : s.ok) {e : Nat} {n : En} (hn : n.ok s.np) : (s.sE1 e n).ok := by
  obtain ⟨h1, h2, h3, h4, h5, h6, h7⟩ := h
  refine ⟨h1, h2, h3, h4, h5, fun j hj => ?_, h7⟩
  show (updf s.en e n j).ok s.np
  unfold updf
  split
  · exact hn
  · exact h6 j hj
theorem pts_ok {b : Pb} (h : b.ok) {g : Nat} {v : Int} (hv : 0 ≤ v ∧ v ≤ 100) : (b.sPts (updf b.pts g v)).ok := by
  obtain ⟨h1, h2, h3, h4, h5, h6⟩ := h
  refine ⟨h1, h2, h3, h4, h5, fun k hk => ?_⟩
  show 0 ≤ updf b.pts g v k ∧ updf b.pts g v k ≤ 100
  unfold updf
  split
  · exact hv
  · exact h6 k hk
theorem pointsS_ok {s : Hl} (h : s.ok) {p g v : Int} : (pointsS s p g v).2.2.ok := by
  unfold pointsS
  split
  · split
    · split
      · rename_i c1 c2 c3
        exact Hl.p1_ok h (pts_ok (h.2.2.2.1 _ (by omega)) c3)
      · exact h
    · exact h
  · exact h
theorem entryS_ok {s : Hl} (h : s.ok) {e w : Int} : (entryS s e w).2.2.ok := by
  unfold entryS
  split
  · split <;> exact h
  · exact h
theorem answerS_ok {s : Hl} (h : s.ok) {p t k : Int} : (answerS s p t k).2.2.ok := by
  unfold answerS
  split
  · split
    · split <;> exact h
    · exact h
  · exact h
theorem freezeS_ok {s : Hl} (h : s.ok) {v : Int} : (freezeS s v).2.2.ok := by
  unfold freezeS
  obtain ⟨h1, h2, h3, h4, h5, h6, h7, h8, h9⟩ := h
  split
  · rename_i c
    exact ⟨h1, h2, h3, h4, h5, h6, h7, c, fun _ _ => Or.inl rfl⟩
  · exact ⟨h1, h2, h3, h4, h5, h6, h7, h8, h9⟩
section CL4
variable {tg : Tg} {K : KT} {P : PT} {I : IT} {x m a t i c : Nat} {s : Hl} {ks : List Nat}
theorem HR.x0 {I' : IT} {mi fz : Int} (h : HR tg K P I x s) (h1 : HRx tg K I' x mi fz) (hf : FrT tg (fun u => u = (0, 0, 0)) I I') : HR tg K P I' x ((s.sMin mi).sFrz fz s.rev) := by
  obtain ⟨a1, a2, a3, a4, a5, a6⟩ := h
  exact ⟨h1, a2, a3.fr hf (fun _ => by simp) (fun _ => by simp), a4.fr hf (by simp) (fun _ _ => by simp) (fun _ _ => by simp), a5.fr hf (by simp) (fun _ _ => by simp), a6.fr hf (by simp)⟩
/-- one problem another -/
theorem HR.p1 {I' : IT} {i : Nat} {b : Pb} (h : HR tg K P I x s) (h1 : PbR tg K P I' i (elt P (P x 3) i) b) (hf : FrT tg (fun u => (u.1 = 4 ∨ u.1 = 5) ∧ u.2.1 = i) I I') : HR tg K P I' x (s.sP1 i b) := by
  obtain ⟨a1, a2, a3, ⟨a4, a5, a6⟩, a7, a8⟩ := h
  refine ⟨a1.fr hf (by simp), a2, a3.fr hf (fun _ => by simp) (fun _ => by simp), ⟨a4, a5.fr (hf.at a4.1 (by simp)), fun j hj => ?_⟩, a7.fr hf (by simp) (fun _ _ => by simp), a8.fr hf (by simp)⟩
  show PbR tg K P I' j (elt P (P x 3) j) (updf s.pb i b j)
  unfold updf
  by_cases q : j = i
  · rw [if_pos q, q]; exact h1
  · rw [if_neg q]; exact (a6 j hj).fr hf (fun k => by simp [q]) (fun k => by simp [q])
/-- one entry another -/
theorem HR.e1 {I' : IT} {e : Nat} {n : En} (h : HR tg K P I x s) (h1 : EnR tg P I' (P x 3) e (elt P (P x 4) e) n) (hf : FrT tg (fun u => u.1 = 6 ∧ u.2.1 = e) I I') : HR tg K P I' x (s.sE1 e n) := by
  obtain ⟨a1, a2, a3, a7, ⟨a4, a5, a6⟩, a8⟩ := h
  refine ⟨a1.fr hf (by simp), a2, a3.fr hf (fun _ => by simp) (fun _ => by simp), a7.fr hf (by simp) (fun _ _ => by simp) (fun _ _ => by simp), ⟨a4, a5.fr (hf.at a4.1 (by simp)), fun j hj => ?_⟩, a8.fr hf (by simp)⟩
  show EnR tg P I' (P x 3) j (elt P (P x 4) j) (updf s.en e n j)
  unfold updf
  by_cases q : j = e
  · rw [if_pos q, q]; exact h1
  · rw [if_neg q]; exact (a6 j hj).fr hf (fun k => by simp [q])
theorem HR.ar {I' : IT} {rev jud hck : Nat → Int} (h : HR tg K P I x s) (h1 : HRa tg P I' x rev jud hck) (hf : FrT tg (fun u => u.1 = 8) I I') : HR tg K P I' x (((s.sFrz s.frz rev).sJud jud).sHck hck) := by
  obtain ⟨a1, a2, a3, a7, a4, a8⟩ := h
  exact ⟨a1.fr hf (by simp), a2, a3.fr hf (fun _ => by simp) (fun _ => by simp), a7.fr hf (by simp) (fun _ _ => by simp) (fun _ _ => by simp), a4.fr hf (by simp) (fun _ _ => by simp), h1⟩
theorem h_pAt {v : Int} (h : HR tg K P I x s) : f_X7_problemAt K P I x v = some (if 0 ≤ v ∧ v < (s.np : Int) then (0, elt P (P x 3) v.toNat, I) else (3, 0, I)) := by
  unfold f_X7_problemAt
  rw [n_index, h.2.2.2.1.2.1.1]
  by_cases c : 0 ≤ v ∧ v < (s.np : Int)
  · rw [if_pos c, if_pos c, bx_0, h.2.2.2.1.2.1.get (by decide) c, bp_s]
  · rw [if_neg c, if_neg c, bx_s (by decide)]; rfl
theorem h_eAt {v : Int} (h : HR tg K P I x s) : f_X7_entryAt K P I x v = some (if 0 ≤ v ∧ v < (s.ne : Int) then (0, elt P (P x 4) v.toNat, I) else (3, 0, I)) := by
  unfold f_X7_entryAt
  rw [n_index, h.2.2.2.2.1.2.1.1]
  by_cases c : 0 ≤ v ∧ v < (s.ne : Int)
  · rw [if_pos c, if_pos c, bx_0, h.2.2.2.2.1.2.1.get (by decide) c, bp_s]
  · rw [if_neg c, if_neg c, bx_s (by decide)]; rfl
theorem h_pass {v : Int} (h : HR tg K P I x s) (hs : s.ok) : HOut tg K P x I (f_X7_pass K P I x v) (passS s v) := by
  unfold f_X7_pass passS
  rw [n_range]
  have e := h.1.2.2.1
  have hm := hs.2.2.2.2.2.2.1
  by_cases c1 : 1 ≤ v ∧ v ≤ 300
  · rw [if_pos c1, bx_0, if_pos c1, e, wr_id (by omega) (by omega)]
    by_cases c2 : s.min + v ≤ 9999
    · rw [if_pos c2, if_pos c2, bnd_e, up_s]
      refine ⟨_, _, rfl, fun _ => rfl, ?_, FrT.up (by rw [h.1.1]; decide)⟩
      exact h.x0 (mi := s.min + v) (fz := s.frz) ⟨h.1.1, h.1.2.1, up_s _ _ _ _, by rw [up_k _ _ _ _ (by decide)]; exact h.1.2.2.2⟩ (FrT.up h.1.1)
    · rw [if_neg c2, if_neg c2]
      exact HOut.same (by decide) h rfl
  · rw [if_neg c1, if_neg c1, bx_s (by decide)]
    exact HOut.same (by decide) h rfl
theorem h_points {p g v : Int} (h : HR tg K P I x s) : HOut tg K P x I (f_X7_points K P I x p g v) (pointsS s p g v) := by
  unfold f_X7_points pointsS
  rw [h_pAt h]
  by_cases c1 : 0 ≤ p ∧ p < (s.np : Int)
  · have hp := h.2.2.2.1.2.2 p.toNat (by omega)
    rw [if_pos c1, if_pos c1, bx_0, ck_t (h.2.2.2.1.2.1.2.1 _ (by omega)), n_index]
    by_cases c2 : 0 ≤ g ∧ g < 4
    · rw [if_pos c2, if_pos c2, bx_0, n_range]
      by_cases c3 : 0 ≤ v ∧ v ≤ 100
      · rw [if_pos c3, if_pos c3, bx_0, ck_t c2, ck_t c2, bnd_e]
        have t4 := hp.1.2.2.1
        have f4 : FrT tg (fun u => u = (4, p.toNat, 5)) I (up I (P (elt P (P x 3) p.toNat) 4) g.toNat v) := FrT.up t4
        refine ⟨_, _, rfl, fun _ => hp.2.2.2.2.2 g.toNat (by omega), h.p1 ?_ (f4.mono (fun u hu => by rw [hu]; exact ⟨Or.inl rfl, rfl⟩)), f4.mono (fun u hu => by rw [hu]; exact (show 4 ≤ 10 by decide))⟩
        obtain ⟨h1, h2, h3, h4, h5, h6⟩ := hp
        have e1 := f4.at h1.1 (by simp)
        have q3 : PgR tg P (up I (P (elt P (P x 3) p.toNat) 4) g.toNat v) (P (elt P (P x 3) p.toNat) 2) 4 p.toNat 1 (s.pb p.toNat).sol := ⟨h3.1, h3.2.fr (f4.at h3.1.1 (by simp)) (f4.at h3.1.2.1 (by simp)) (f4.at h3.1.2.2 (by simp))⟩
        refine ⟨h1, by rw [e1]; exact h2, q3, h4.fr (f4.at h1.2.1 (by simp)), fun j hj => (h5 j hj).fr f4 (fun k => by simp), fun k hk => ?_⟩
        rw [up_apply]
        show _ = updf (s.pb p.toNat).pts g.toNat v k
        unfold updf
        by_cases q : k = g.toNat
        · rw [if_pos ⟨rfl, q⟩, if_pos q]
        · rw [if_neg (fun e => q e.2), if_neg q]; exact h6 k hk
      · rw [if_neg c3, if_neg c3, bx_s (by decide)]
        exact HOut.same (by decide) h rfl
    · rw [if_neg c2, if_neg c2, bx_s (by decide)]
      exact HOut.same (by decide) h rfl
  · rw [if_neg c1, if_neg c1, bx_s (by decide)]
    exact HOut.same (by decide) h rfl
theorem h_entry {e w : Int} (h : HR tg K P I x s) (hs : s.ok) : HOut tg K P x I (f_X7_entry K P I x e w) (entryS s e w) := by
  unfold f_X7_entry entryS
  rw [h_eAt h]
  by_cases c1 : 0 ≤ e ∧ e < (s.ne : Int)
  · obtain ⟨-, -, h3, h4⟩ := h.2.2.2.2.1.2.2 e.toNat (by omega)
    rw [if_pos c1, if_pos c1, bx_0, ck_t (h.2.2.2.2.1.2.1.2.1 _ (by omega)), n_range]
    by_cases c2 : 0 ≤ w ∧ w ≤ 6
    · rw [if_pos c2, if_pos c2, bx_0]
      refine ⟨entryV (s.en e.toNat) w, I, ?_, fun _ => rfl, h, FrT.rf⟩
      obtain ⟨k0, k2, k4, k5, k6, k7⟩ := h4
      unfold entryV
      by_cases w0 : w = 0
      · rw [if_pos w0, if_pos w0, k4]
      rw [if_neg w0, if_neg w0]
      by_cases w1 : w = 1
      · rw [if_pos w1, if_pos w1, k5]
      rw [if_neg w1, if_neg w1]
      by_cases w2 : w = 2
      · rw [if_pos w2, if_pos w2, k6]
      rw [if_neg w2, if_neg w2]
      by_cases w3 : w = 3
      · rw [if_pos w3, if_pos w3, k7]
      rw [if_neg w3, if_neg w3]
      by_cases w4 : w = 4
      · rw [if_pos w4, if_pos w4, k0]
      rw [if_neg w4, if_neg w4]
      by_cases w5 : w = 5
      · rw [if_pos w5, if_pos w5, h3]
        rw [(h.2.2.2.1.2.2 _ (hs.2.2.2.2.2.1 e.toNat (by omega)).2.1).2.1.1]
      rw [if_neg w5, if_neg w5, k2]
    · rw [if_neg c2, if_neg c2, bx_s (by decide)]
      exact HOut.same (by decide) h rfl
  · rw [if_neg c1, if_neg c1, bx_s (by decide)]
    exact HOut.same (by decide) h rfl
theorem h_answer {p t k : Int} (h : HR tg K P I x s) (hs : s.ok) : HOut tg K P x I (f_X7_answer K P I x p t k) (answerS s p t k) := by
  unfold f_X7_answer answerS
  rw [h_pAt h]
  by_cases c1 : 0 ≤ p ∧ p < (s.np : Int)
  · have hp := h.2.2.2.1.2.2 p.toNat (by omega)
    have hb := hs.2.2.2.1 p.toNat (by omega)
    rw [if_pos c1, if_pos c1, bx_0, ck_t (h.2.2.2.1.2.1.2.1 _ (by omega)), n_index, hp.2.2.2.1.1]
    by_cases c2 : 0 ≤ t ∧ t < ((s.pb p.toNat).nt : Int)
    · rw [if_pos c2, if_pos c2, bx_0]
      by_cases c3 : 0 ≤ k
      · rw [if_pos c3, if_pos c3, hp.2.2.2.1.get (by decide) c2, bp_s]
        have ht := (hp.2.2.2.2.1 t.toNat (by omega)).2.2.1.2
        have ho := (runA_ou hb.2.2.1 (hb.2.2.2.2.1 t.toNat (by omega)).1 500).1
        rw [r_at ht ho, bp_s]
        refine ⟨_, I, rfl, fun _ => ?_, h, FrT.rf⟩
        by_cases c : k < (((s.pb p.toNat).ans t.toNat).1 : Int)
        · rw [if_pos c, if_pos ⟨c3, c⟩]
        · rw [if_neg c, if_neg (fun q => c q.2)]
      · rw [if_neg c3, if_neg c3]
        exact HOut.same (by decide) h rfl
    · rw [if_neg c2, if_neg c2, bx_s (by decide)]
      exact HOut.same (by decide) h rfl
  · rw [if_neg c1, if_neg c1, bx_s (by decide)]
    exact HOut.same (by decide) h rfl
end CL4
