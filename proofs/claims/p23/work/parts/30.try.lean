/-! HOW A PROGRAM DOES with a test -/
abbrev wth (off : Int) (a b : Rw) : Prop := a.1 = b.1 ∧ ∀ j, j < a.1 → -off ≤ a.2 j - b.2 j ∧ a.2 j - b.2 j ≤ off
def tryS (g : Pg) (lim : Nat) (chk : Int) (inp ans : Rw) : Int := if (runA g inp lim).e = 0 then (if wth (if chk = 1 then 1 else 0) (runA g inp lim).o ans then 0 else if (runA g inp lim).o.1 = 0 then 5 else 1) else (runA g inp lim).e
def smallR (r : Rw) : Prop := r.1 ≤ 8 ∧ ∀ j, j < r.1 → -999999 ≤ r.2 j ∧ r.2 j ≤ 999999
section TR1
variable {tg : Tg} {K : KT} {P : PT} {I : IT} {x m a b t i c : Nat} {s : Hl} {ks : List Nat}
theorem iabs_le {v : Int} (hv : -2147483647 ≤ v ∧ v ≤ 2147483647) {off : Int} : iabs v ≤ off ↔ -off ≤ v ∧ v ≤ off := by
  unfold iabs
  by_cases c : 0 ≤ v
  · rw [if_pos c]
    omega
  · rw [if_neg c, wr_id (by omega) (by omega)]
    omega
theorem h_wth_l {r q : Rw} (hr : RowI P I a r) (hq : RowI P I b q) (sr : smallR r) (sq : smallR q) (he : r.1 = q.1) (off : Int) : ∀ (d fuel k : Nat), d < fuel → k + d = r.1 → f_X4_isWithin_15 K P I fuel a off b (k : Int) = some (if ∀ j, j < r.1 → k ≤ j → -off ≤ r.2 j - q.2 j ∧ r.2 j - q.2 j ≤ off then 1 else 0) := by
  intro d
  induction d with
  | zero =>
    intro fuel k hf hk
    obtain ⟨n, rfl⟩ : ∃ n, fuel = n + 1 := ⟨fuel - 1, by omega⟩
    unfold f_X4_isWithin_15
    rw [hr.1, if_pos (by omega), if_pos (fun j h1 h2 => by omega)]
  | succ d ih =>
    intro fuel k hf hk
    obtain ⟨n, rfl⟩ : ∃ n, fuel = n + 1 := ⟨fuel - 1, by omega⟩
    have hb1 := sr.2 k (by omega)
    have hb2 := sq.2 k (by omega)
    unfold f_X4_isWithin_15
    rw [hr.1, if_neg (by omega), r_at hr sr.1, r_at hq sq.1, if_pos (show 0 ≤ (k : Int) ∧ (k : Int) < (r.1 : Int) by omega), if_pos (show 0 ≤ (k : Int) ∧ (k : Int) < (q.1 : Int) by omega), bp_s, bp_s, Int.toNat_natCast, wr_id (x := r.2 k - q.2 k) (by omega) (by omega), show wr ((k : Int) + 1) = ((k + 1 : Nat) : Int) by have := sr.1; rw [wr_id (by omega) (by omega)]; rfl]
    by_cases c : iabs (r.2 k - q.2 k) ≤ off
    · rw [if_pos c, ih n (k + 1) (by omega) (by omega)]
      have c2 := (iabs_le (by omega)).mp c
      congr 1
      by_cases z : ∀ j, j < r.1 → k + 1 ≤ j → -off ≤ r.2 j - q.2 j ∧ r.2 j - q.2 j ≤ off
      · rw [if_pos z, if_pos (fun j h1 h2 => by
          by_cases e : j = k
          · rw [e]; exact c2
          · exact z j h1 (by omega))]
      · rw [if_neg z, if_neg (fun y => z (fun j h1 h2 => y j h1 (by omega)))]
    · rw [if_neg c, if_neg (fun y => c ((iabs_le (by omega)).mpr (y k (by omega) (Nat.le_refl _))))]
theorem h_wth {r q : Rw} (hr : RowI P I a r) (hq : RowI P I b q) (sr : smallR r) (sq : smallR q) (off : Int) : f_X4_isWithin K P I a off b = some (if wth off r q then 1 else 0) := by
  unfold f_X4_isWithin
  rw [hr.1, hq.1]
  by_cases he : r.1 = q.1
  · have := sr.1
    rw [if_pos (by omega), show (0 : Int) = ((0 : Nat) : Int) from rfl, h_wth_l hr hq sr sq he off r.1 FU 0 (by unfold FU; omega) (by omega)]
    congr 1
    by_cases z : wth off r q
    · rw [if_pos z, if_pos (fun j h1 _ => z.2 j h1)]
    · rw [if_neg z, if_neg (fun y => z ⟨he, fun j h1 => y j h1 (Nat.zero_le _)⟩)]; rfl
  · rw [if_neg (by omega), if_neg (fun z => he z.1)]
/-- the verdict that an entry has by one test -/
theorem h_try {j e : Nat} {n : En} {b : Pb} {inp : Rw} {p en tr gr : Nat} {grp : Int} (h : HRs tg P x) (hs : b.ok) (hn : n.prg.ok) (hi : inp.ok) {ans : Rw} (ha : smallR ans)
    (he : PgR tg P I (P en 3) 6 e 1 n.prg) (hp : P en 1 = p) (h1 : I p 1 = (b.lim : Int)) (h5 : I p 5 = b.chk) (htp : tg p = (4, i, 0)) (ht : TrR tg P I gr j tr inp ans grp) :
    ∃ I', f_X7_tryOut K P I x en tr = some (tryS n.prg b.lim b.chk inp ans, I') ∧ FrT tg tgM I I' := by
  obtain ⟨I', u1, u2, u3, u4⟩ := h_exec (K := K) h hn hi b.lim hs.1.2 he ht.2.1 (by decide) (by decide)
  unfold f_X7_tryOut tryS
  rw [hp, h1, u1, bi_s]
  by_cases c : (runA n.prg inp b.lim).e = 0
  · rw [if_pos c, if_pos c]
    have e5 : I' p 5 = b.chk := by rw [u4.at htp (show ¬ 4 = 3 by decide)]; exact h5
    have hans : RowI P I' (P tr 1) ans := ht.2.2.1.2.fr (u4.at ht.2.2.1.1.1 (show ¬ 5 = 3 by decide)) (u4.at ht.2.2.1.1.2 (show ¬ 5 = 3 by decide))
    have so : smallR (runA n.prg inp b.lim).o := runA_ou hn hi b.lim
    have key : ∀ off : Int, f_X7_tryOut_45 K P I' x tr off = some ((if wth off (runA n.prg inp b.lim).o ans then 0 else if (runA n.prg inp b.lim).o.1 = 0 then 5 else 1), I') := fun off => by
      unfold f_X7_tryOut_45
      rw [h_wth u2 hans so ha, bp_s]
      by_cases z : wth off (runA n.prg inp b.lim).o ans
      · rw [if_pos z, if_pos z, if_neg (by decide)]
      · rw [if_neg z, if_neg z, if_pos rfl, u2.1, hans.1]
        by_cases o0 : (runA n.prg inp b.lim).o.1 = 0
        · rw [if_pos o0, if_pos (by omega)]
          have : ¬ ans.1 = 0 := fun q => z ⟨by rw [o0, q], fun j hj => absurd hj (by omega)⟩
          rw [if_neg (by omega)]
        · rw [if_neg o0, if_neg (by omega)]
    rw [e5]
    by_cases c1 : b.chk = 1
    · rw [if_pos c1, if_pos c1, key 1]; exact ⟨I', rfl, u4⟩
    · rw [if_neg c1, if_neg c1, key 0]; exact ⟨I', rfl, u4⟩
  · rw [if_neg c, if_neg c]
    exact ⟨I', rfl, u4⟩
end TR1
