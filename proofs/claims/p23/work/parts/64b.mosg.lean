/-! most: sixty entries, told and judged in turn, in a closed form -/
theorem HI.sen0 {D : va_G} {cy : Nat → ClassId} {B : Nat} {H0 H : Heap} {locs : List Loc} {x : Nat} {S : Hl} {f : Nat → En} (h : HI D cy B H0 H locs x S) (h0 : S.ne = 0) : HI D cy B H0 H locs x (S.sEn 0 f) := by
  obtain ⟨tg, L, K, P, J, I, h1, h2, ⟨a1, a2, a3, a4, a5, a6⟩, hok, h5⟩ := h
  obtain ⟨o1, o2, o3, o4, o5, o6, o7⟩ := hok
  obtain ⟨b1, b2, b3⟩ := a5
  rw [h0] at b2
  exact ⟨tg, L, K, P, J, I, h1, h2, ⟨a1, a2, a3, a4, ⟨b1, b2, fun e he => absurd he (Nat.not_lt_zero _)⟩, a6⟩, ⟨o1, o2, o3, o4, Nat.zero_le _, fun e he => absurd he (Nat.not_lt_zero _), o7⟩, h5⟩
def enG (b : Hl) (e : Nat) : En := mkEn (e % 8) (e % 6) b.min b.desk (-1) (-1) 0 (-1)
def gEb (b : Hl) (k : Nat) : Hl := b.sEn k (enG b)
def enJ (b : Hl) (n e : Nat) : En := if e < n then mkEn (e % 8) (e % 6) b.min b.desk 0 (-1) (if e % 6 = 5 then 100 else 0) (if e % 6 = 5 then 12 else 0) else enG b e
def judJ (b : Hl) (n t : Nat) : Int := if t < 8 then (((n + 7 - t) / 8 : Nat) : Int) else b.jud t
def gJb (b : Hl) (n : Nat) : Hl := (b.sEn 60 (enJ b n)).sJud (judJ b n)
section MG
variable {b : Hl}
theorem gE_deskb (hd : b.desk.1 = 0) (k : Nat) : ((gEb b k).sEn (k + 1) (enG b)).sDesk (0, (gEb b k).desk.2) = gEb b (k + 1) := by
  have e : ((0 : Nat), b.desk.2) = b.desk := Prod.ext hd.symm rfl
  show mkHl (0, b.desk.2) _ _ _ _ _ _ _ _ _ _ = mkHl b.desk _ _ _ _ _ _ _ _ _ _
  rw [e]
  rfl
theorem gE_enterb (hp : b.np = 6) (hd : b.desk.1 = 0) {k : Nat} (hk : k < 60) : enterS (gEb b k) ((k % 8 : Nat) : Int) ((k % 6 : Nat) : Int) = (0, (k : Int), gEb b (k + 1)) := by
  have h6 : (gEb b k).np = 6 := hp
  unfold enterS
  rw [if_pos (show 0 ≤ ((k % 8 : Nat) : Int) ∧ ((k % 8 : Nat) : Int) < 8 by omega), if_pos (show 0 ≤ ((k % 6 : Nat) : Int) ∧ ((k % 6 : Nat) : Int) < ((gEb b k).np : Int) by omega), if_pos (show (gEb b k).ne < 60 from hk)]
  have e1 : updf (gEb b k).en (gEb b k).ne (newEn (gEb b k) ((k % 8 : Nat) : Int).toNat ((k % 6 : Nat) : Int).toNat) = enG b := funext fun e => by
    unfold updf
    by_cases z : e = (gEb b k).ne
    · have z2 : e = k := z
      rw [if_pos z, Int.toNat_natCast, Int.toNat_natCast, z2]
      rfl
    · rw [if_neg z]
      rfl
  rw [e1]
  exact Prod.ext rfl (Prod.ext rfl (gE_deskb hd k))
theorem gE_stepb (hp : b.np = 6) (hd : b.desk.1 = 0) {k : Nat} (hk : k < 60) : outI (actQ (gEb b k) 8 ((k % 8 : Nat) : Int) ((k % 6 : Nat) : Int) 0) = (k : Int) ∧ (actQ (gEb b k) 8 ((k % 8 : Nat) : Int) ((k % 6 : Nat) : Int) 0).2.2 = gEb b (k + 1) := by
  have e : actQ (gEb b k) 8 ((k % 8 : Nat) : Int) ((k % 6 : Nat) : Int) 0 = (0, (k : Int), gEb b (k + 1)) := gE_enterb hp hd hk
  rw [e]
  exact ⟨rfl, rfl⟩
theorem gE_fullb (hp : b.np = 6) : outI (actQ (gEb b 60) 8 4 0 0) = -7000003 ∧ (actQ (gEb b 60) 8 4 0 0).2.2 = gEb b 60 := by
  have h6 : (gEb b 60).np = 6 := hp
  have e : actQ (gEb b 60) 8 4 0 0 = (2, 0, gEb b 60) := by
    show enterS (gEb b 60) 4 0 = _
    unfold enterS
    rw [if_pos (by decide), if_pos (show (0 : Int) ≤ 0 ∧ (0 : Int) < ((gEb b 60).np : Int) by omega), if_neg (show ¬ (gEb b 60).ne < 60 from Nat.lt_irrefl 60)]
  rw [e]
  exact ⟨rfl, rfl⟩
theorem gJ0b (hj : ∀ t, t < 8 → b.jud t = 0) : gJb b 0 = gEb b 60 := by
  have e1 : enJ b 0 = enG b := funext fun e => if_neg (Nat.not_lt_zero _)
  have e2 : judJ b 0 = b.jud := funext fun t => by
    unfold judJ
    by_cases z : t < 8
    · rw [if_pos z, hj t z]
      have : (0 + 7 - t) / 8 = 0 := by omega
      rw [this]
      rfl
    · rw [if_neg z]
  unfold gJb
  rw [e1, e2]
  rfl
theorem gJ_chb {n : Nat} (hn : n < 60) : ∀ k, k ≤ 60 → chS (gJb b n) k = if k ≤ n then -1 else (n : Int)
  | 0, _ => (if_pos (Nat.zero_le _)).symm
  | k + 1, hk => by
    have ih := gJ_chb hn k (by omega)
    have e : chS (gJb b n) (k + 1) = if ((gJb b n).en k).vd = -1 then (if chS (gJb b n) k = -1 then (k : Int) else if (gJb b n).jud ((gJb b n).en (chS (gJb b n) k).toNat).team ≤ (gJb b n).jud ((gJb b n).en k).team then chS (gJb b n) k else (k : Int)) else chS (gJb b n) k := rfl
    rw [e]
    have ek : (gJb b n).en k = enJ b n k := rfl
    rw [ek]
    by_cases c1 : k < n
    · have ev : (enJ b n k).vd = 0 := by unfold enJ; rw [if_pos c1]; rfl
      rw [ev, if_neg (show ¬ (0 : Int) = -1 by decide), ih, if_pos (show k ≤ n by omega), if_pos (show k + 1 ≤ n by omega)]
    · have eg : enJ b n k = enG b k := if_neg c1
      have ev : (enG b k).vd = -1 := rfl
      rw [eg, ev, if_pos rfl, ih]
      by_cases c2 : k = n
      · rw [if_pos (show k ≤ n by omega), if_pos rfl, if_neg (show ¬ k + 1 ≤ n by omega), c2]
      · rw [if_neg (show ¬ k ≤ n by omega), if_neg (show ¬ (n : Int) = -1 by omega), if_neg (show ¬ k + 1 ≤ n by omega), Int.toNat_natCast]
        have en : (gJb b n).en n = enG b n := if_neg (Nat.lt_irrefl n)
        rw [en]
        have t1 : (enG b n).team = n % 8 := rfl
        have t2 : (enG b k).team = k % 8 := rfl
        rw [t1, t2]
        refine if_pos ?_
        show judJ b n (n % 8) ≤ judJ b n (k % 8)
        unfold judJ
        rw [if_pos (show n % 8 < 8 by omega), if_pos (show k % 8 < 8 by omega)]
        omega
theorem judE_of {s : Hl} {e t p : Nat} {w vd fl sc jb : Int} {g : Pg} {n : En} (h : s.en e = n) (h1 : n.team = t ∧ n.prob = p ∧ n.whn = w ∧ n.prg = g) (h2 : (s.pb p).vd g = vd ∧ (s.pb p).ff g (s.pb p).nt = fl ∧ ptsS (s.pb p).pts ((s.pb p).grp g) 4 = sc ∧ (s.pb p).ver = jb) : judE s e = (s.sE1 e (mkEn t p w g vd fl sc jb)).sJud (updf s.jud t (wr (s.jud t + 1))) := by
  obtain ⟨rfl, rfl, rfl, rfl⟩ := h1
  obtain ⟨rfl, rfl, rfl, rfl⟩ := h2
  subst h
  rfl
theorem gJ_e1 {n : Nat} : updf (enJ b n) n (mkEn (n % 8) (n % 6) b.min b.desk 0 (-1) (if n % 6 = 5 then 100 else 0) (if n % 6 = 5 then 12 else 0)) = enJ b (n + 1) := funext fun e => by
  unfold updf
  by_cases z : e = n
  · rw [if_pos z, z]
    exact (if_pos (Nat.lt_succ_self n)).symm
  · rw [if_neg z]
    unfold enJ
    by_cases c : e < n
    · rw [if_pos c, if_pos (show e < n + 1 by omega)]
    · rw [if_neg c, if_neg (show ¬ e < n + 1 by omega)]
theorem gJ_e2 {n : Nat} (hn : n < 60) : updf (judJ b n) (n % 8) (wr (judJ b n (n % 8) + 1)) = judJ b (n + 1) := funext fun t => by
  unfold updf
  by_cases z : t = n % 8
  · rw [if_pos z, z]
    unfold judJ
    rw [if_pos (show n % 8 < 8 by omega), if_pos (show n % 8 < 8 by omega), wr_id (by omega) (by omega)]
    omega
  · rw [if_neg z]
    unfold judJ
    by_cases c : t < 8
    · rw [if_pos c, if_pos c]
      omega
    · rw [if_neg c, if_neg c]
theorem sj2 {s : Hl} {k1 k2 : Nat} {f1 f2 : Nat → En} {g1 g2 : Nat → Int} : ((((s.sEn k1 f1).sJud g1).sEn k2 f2).sJud g2) = (s.sEn k2 f2).sJud g2 := rfl
theorem sj3 {s : Hl} {k1 e : Nat} {f1 : Nat → En} {g1 : Nat → Int} {m : En} : ((s.sEn k1 f1).sJud g1).sE1 e m = ((s.sEn k1 f1).sJud g1).sEn k1 (updf f1 e m) := rfl
theorem sj4 {s : Hl} {k1 : Nat} {f1 : Nat → En} {g1 : Nat → Int} : (((s.sEn k1 f1).sJud g1).jud = g1 ∧ ((s.sEn k1 f1).sJud g1).en = f1) ∧ ((s.sEn k1 f1).sJud g1).pb = s.pb := ⟨⟨rfl, rfl⟩, rfl⟩
theorem gJ_jud (hv : ∀ i, i < 6 → ((b.pb i).vd b.desk = 0 ∧ (b.pb i).ff b.desk (b.pb i).nt = -1) ∧ ptsS (b.pb i).pts ((b.pb i).grp b.desk) 4 = (if i = 5 then 100 else 0) ∧ (b.pb i).ver = (if i = 5 then 12 else 0)) {n : Nat} (hn : n < 60) : judE (gJb b n) n = gJb b (n + 1) := by
  obtain ⟨⟨v1, v2⟩, v3, v4⟩ := hv (n % 6) (by omega)
  unfold gJb
  obtain ⟨⟨q1, q2⟩, q3⟩ := sj4 (s := b) (k1 := 60) (f1 := enJ b n) (g1 := judJ b n)
  have en : ((b.sEn 60 (enJ b n)).sJud (judJ b n)).en n = enG b n := by rw [q2]; exact if_neg (Nat.lt_irrefl n)
  rw [judE_of (t := n % 8) (p := n % 6) (w := b.min) (g := b.desk) (vd := 0) (fl := -1) (sc := if n % 6 = 5 then 100 else 0) (jb := if n % 6 = 5 then 12 else 0) en ⟨rfl, rfl, rfl, rfl⟩ (by rw [q3]; exact ⟨v1, v2, v3, v4⟩), q1, gJ_e2 hn, sj3, gJ_e1, sj2]
theorem gJ_hc {n : Nat} (hn : n < 60) : chS (gJb b n) (gJb b n).ne = (n : Int) := by
  have h := gJ_chb (b := b) hn 60 (Nat.le_refl _)
  rw [if_neg (show ¬ 60 ≤ n by omega)] at h
  have e : (gJb b n).ne = 60 := rfl
  rw [e]
  exact h
theorem judge_of {s s' : Hl} {n : Nat} (hc : chS s s.ne = (n : Int)) (hj : judE s n = s') : judgeS s = (0, (n : Int), s') := by
  unfold judgeS
  rw [hc, if_neg (by omega), Int.toNat_natCast, hj]
theorem gJ_stepb (hv : ∀ i, i < 6 → ((b.pb i).vd b.desk = 0 ∧ (b.pb i).ff b.desk (b.pb i).nt = -1) ∧ ptsS (b.pb i).pts ((b.pb i).grp b.desk) 4 = (if i = 5 then 100 else 0) ∧ (b.pb i).ver = (if i = 5 then 12 else 0)) {n : Nat} (hn : n < 60) : judgeS (gJb b n) = (0, (n : Int), gJb b (n + 1)) := judge_of (gJ_hc hn) (gJ_jud hv hn)
end MG
theorem fB_np : fB.np = 6 := by decide +kernel
theorem fB_ne : fB.ne = 0 := by decide +kernel
theorem fB_desk : fB.desk.1 = 0 := by decide +kernel
theorem fB_jud : ∀ t, t < 8 → fB.jud t = 0 := by decide +kernel
theorem fB_v : ∀ i, i < 6 → ((fB.pb i).vd fB.desk = 0 ∧ (fB.pb i).ff fB.desk (fB.pb i).nt = -1) ∧ ptsS (fB.pb i).pts ((fB.pb i).grp fB.desk) 4 = (if i = 5 then 100 else 0) ∧ (fB.pb i).ver = (if i = 5 then 12 else 0) := by decide +kernel
theorem gE_step {k : Nat} (hk : k < 60) : outI (actQ (gEb fB k) 8 ((k % 8 : Nat) : Int) ((k % 6 : Nat) : Int) 0) = (k : Int) ∧ (actQ (gEb fB k) 8 ((k % 8 : Nat) : Int) ((k % 6 : Nat) : Int) 0).2.2 = gEb fB (k + 1) := gE_stepb fB_np fB_desk hk
theorem gE_full : outI (actQ (gEb fB 60) 8 4 0 0) = -7000003 ∧ (actQ (gEb fB 60) 8 4 0 0).2.2 = gEb fB 60 := gE_fullb fB_np
theorem gJ0 : gJb fB 0 = gEb fB 60 := gJ0b fB_jud
theorem gJ_step {n : Nat} (hn : n < 60) : judgeS (gJb fB n) = (0, (n : Int), gJb fB (n + 1)) := gJ_stepb fB_v hn
theorem HI.gE0 {D : va_G} {cy : Nat → ClassId} {B : Nat} {H0 H : Heap} {locs : List Loc} {x : Nat} (h : HI D cy B H0 H locs x fB) : HI D cy B H0 H locs x (gEb fB 0) := h.sen0 fB_ne
