/-! most: sixty entries, told and judged in turn, in a closed form -/
theorem HI.sen0 {D : va_G} {cy : Nat → ClassId} {B : Nat} {H0 H : Heap} {locs : List Loc} {x : Nat} {S : Hl} {f : Nat → En} (h : HI D cy B H0 H locs x S) (h0 : S.ne = 0) : HI D cy B H0 H locs x (S.sEn 0 f) := by
  obtain ⟨tg, L, K, P, J, I, h1, h2, ⟨a1, a2, a3, a4, a5, a6⟩, hok, h5⟩ := h
  obtain ⟨o1, o2, o3, o4, o5, o6, o7⟩ := hok
  obtain ⟨b1, b2, b3⟩ := a5
  rw [h0] at b2
  exact ⟨tg, L, K, P, J, I, h1, h2, ⟨a1, a2, a3, a4, ⟨b1, b2, fun e he => absurd he (Nat.not_lt_zero _)⟩, a6⟩, ⟨o1, o2, o3, o4, Nat.zero_le _, fun e he => absurd he (Nat.not_lt_zero _), o7⟩, h5⟩
theorem fB_np : fB.np = 6 := by decide +kernel
theorem fB_ne : fB.ne = 0 := by decide +kernel
theorem fB_desk : fB.desk.1 = 0 := by decide +kernel
theorem fB_jud : ∀ t, t < 8 → fB.jud t = 0 := by decide +kernel
theorem fB_v : ∀ i, i < 6 → ((fB.pb i).vd fB.desk = 0 ∧ (fB.pb i).ff fB.desk (fB.pb i).nt = -1) ∧ ptsS (fB.pb i).pts ((fB.pb i).grp fB.desk) 4 = (if i = 5 then 100 else 0) ∧ (fB.pb i).ver = (if i = 5 then 12 else 0) := by decide +kernel
def enG (b : Hl) (e : Nat) : En := mkEn (e % 8) (e % 6) b.min b.desk (-1) (-1) 0 (-1)
def gE (k : Nat) : Hl := fB.sEn k (enG fB)
def enJ (n e : Nat) : En := if e < n then mkEn (e % 8) (e % 6) fB.min fB.desk 0 (-1) (if e % 6 = 5 then 100 else 0) (if e % 6 = 5 then 12 else 0) else enG fB e
def judJ (n t : Nat) : Int := if t < 8 then (((n + 7 - t) / 8 : Nat) : Int) else fB.jud t
def gJ (n : Nat) : Hl := (fB.sEn 60 (enJ n)).sJud (judJ n)
theorem gE_desk (k : Nat) : ((gE k).sEn (k + 1) (enG fB)).sDesk (0, (gE k).desk.2) = gE (k + 1) := by
  have e : ((0 : Nat), fB.desk.2) = fB.desk := Prod.ext fB_desk.symm rfl
  show mkHl (0, fB.desk.2) _ _ _ _ _ _ _ _ _ _ = mkHl fB.desk _ _ _ _ _ _ _ _ _ _
  rw [e]
  rfl
theorem gE_enter {k : Nat} (hk : k < 60) : enterS (gE k) ((k % 8 : Nat) : Int) ((k % 6 : Nat) : Int) = (0, (k : Int), gE (k + 1)) := by
  have h6 : (gE k).np = 6 := fB_np
  unfold enterS
  rw [if_pos (show 0 ≤ ((k % 8 : Nat) : Int) ∧ ((k % 8 : Nat) : Int) < 8 by omega), if_pos (show 0 ≤ ((k % 6 : Nat) : Int) ∧ ((k % 6 : Nat) : Int) < ((gE k).np : Int) by omega), if_pos (show (gE k).ne < 60 from hk)]
  have e1 : updf (gE k).en (gE k).ne (newEn (gE k) ((k % 8 : Nat) : Int).toNat ((k % 6 : Nat) : Int).toNat) = enG fB := funext fun e => by
    unfold updf
    by_cases z : e = (gE k).ne
    · have z2 : e = k := z
      rw [if_pos z, Int.toNat_natCast, Int.toNat_natCast, z2]
      rfl
    · rw [if_neg z]
      rfl
  rw [e1]
  exact Prod.ext rfl (Prod.ext rfl (gE_desk k))
theorem gE_step {k : Nat} (hk : k < 60) : outI (actQ (gE k) 8 ((k % 8 : Nat) : Int) ((k % 6 : Nat) : Int) 0) = (k : Int) ∧ (actQ (gE k) 8 ((k % 8 : Nat) : Int) ((k % 6 : Nat) : Int) 0).2.2 = gE (k + 1) := by
  have e : actQ (gE k) 8 ((k % 8 : Nat) : Int) ((k % 6 : Nat) : Int) 0 = (0, (k : Int), gE (k + 1)) := gE_enter hk
  rw [e]
  exact ⟨rfl, rfl⟩
theorem gE_full : outI (actQ (gE 60) 8 4 0 0) = -7000003 ∧ (actQ (gE 60) 8 4 0 0).2.2 = gE 60 := by
  have h6 : (gE 60).np = 6 := fB_np
  have e : actQ (gE 60) 8 4 0 0 = (2, 0, gE 60) := by
    show enterS (gE 60) 4 0 = _
    unfold enterS
    rw [if_pos (by decide), if_pos (show (0 : Int) ≤ 0 ∧ (0 : Int) < ((gE 60).np : Int) by omega), if_neg (show ¬ (gE 60).ne < 60 from Nat.lt_irrefl 60)]
  rw [e]
  exact ⟨rfl, rfl⟩
theorem gJ0 : gJ 0 = gE 60 := by
  have e1 : enJ 0 = enG fB := funext fun e => if_neg (Nat.not_lt_zero _)
  have e2 : judJ 0 = fB.jud := funext fun t => by
    unfold judJ
    by_cases z : t < 8
    · rw [if_pos z, fB_jud t z]
      have : (0 + 7 - t) / 8 = 0 := by omega
      rw [this]
      rfl
    · rw [if_neg z]
  unfold gJ
  rw [e1, e2]
  rfl
theorem gJ_ch {n : Nat} (hn : n < 60) : ∀ k, k ≤ 60 → chS (gJ n) k = if k ≤ n then -1 else (n : Int)
  | 0, _ => (if_pos (Nat.zero_le _)).symm
  | k + 1, hk => by
    have ih := gJ_ch hn k (by omega)
    have e : chS (gJ n) (k + 1) = if ((gJ n).en k).vd = -1 then (if chS (gJ n) k = -1 then (k : Int) else if (gJ n).jud ((gJ n).en (chS (gJ n) k).toNat).team ≤ (gJ n).jud ((gJ n).en k).team then chS (gJ n) k else (k : Int)) else chS (gJ n) k := rfl
    rw [e]
    have ek : (gJ n).en k = enJ n k := rfl
    rw [ek]
    by_cases c1 : k < n
    · have ev : (enJ n k).vd = 0 := by unfold enJ; rw [if_pos c1]; rfl
      rw [ev, if_neg (by decide), ih, if_pos (by omega), if_pos (by omega)]
    · have eg : enJ n k = enG fB k := if_neg c1
      have ev : (enG fB k).vd = -1 := rfl
      rw [eg, ev, if_pos rfl, ih]
      by_cases c2 : k = n
      · rw [if_pos (by omega), if_pos rfl, if_neg (by omega), c2]
      · rw [if_neg (show ¬ k ≤ n by omega), if_neg (show ¬ (n : Int) = -1 by omega), if_neg (show ¬ k + 1 ≤ n by omega), Int.toNat_natCast]
        have en : (gJ n).en n = enG fB n := if_neg (Nat.lt_irrefl n)
        rw [en]
        have t1 : (enG fB n).team = n % 8 := rfl
        have t2 : (enG fB k).team = k % 8 := rfl
        rw [t1, t2]
        refine if_pos ?_
        show judJ n (n % 8) ≤ judJ n (k % 8)
        unfold judJ
        rw [if_pos (by omega), if_pos (by omega)]
        omega
theorem gJ_step {n : Nat} (hn : n < 60) : judgeS (gJ n) = (0, (n : Int), gJ (n + 1)) := by
  have hc : chS (gJ n) (gJ n).ne = (n : Int) := by
    rw [show (gJ n).ne = 60 from rfl, gJ_ch hn 60 (Nat.le_refl _), if_neg (by omega)]
  unfold judgeS
  rw [hc, if_neg (by omega), Int.toNat_natCast]
  refine Prod.ext rfl (Prod.ext rfl ?_)
  have en : (gJ n).en n = enG fB n := if_neg (Nat.lt_irrefl n)
  obtain ⟨⟨v1, v2⟩, v3, v4⟩ := fB_v (n % 6) (by omega)
  have e1 : updf (enJ n) n (mkEn (n % 8) (n % 6) fB.min fB.desk ((fB.pb (n % 6)).vd fB.desk) ((fB.pb (n % 6)).ff fB.desk (fB.pb (n % 6)).nt) (ptsS (fB.pb (n % 6)).pts ((fB.pb (n % 6)).grp fB.desk) 4) (fB.pb (n % 6)).ver) = enJ (n + 1) := funext fun e => by
    unfold updf
    by_cases z : e = n
    · rw [if_pos z, v1, v2, v3, v4, z]
      exact (if_pos (Nat.lt_succ_self n)).symm
    · rw [if_neg z]
      unfold enJ
      by_cases c : e < n
      · rw [if_pos c, if_pos (by omega)]
      · rw [if_neg c, if_neg (by omega)]
  have e2 : updf (judJ n) (n % 8) (wr (judJ n (n % 8) + 1)) = judJ (n + 1) := funext fun t => by
    unfold updf
    by_cases z : t = n % 8
    · rw [if_pos z, z]
      unfold judJ
      rw [if_pos (by omega), if_pos (by omega), wr_id (by omega) (by omega)]
      omega
    · rw [if_neg z]
      unfold judJ
      by_cases c : t < 8
      · rw [if_pos c, if_pos c]
        omega
      · rw [if_neg c, if_neg c]
  show judE (gJ n) n = gJ (n + 1)
  unfold judE
  rw [en]
  show ((gJ n).sE1 n (mkEn (n % 8) (n % 6) fB.min fB.desk ((fB.pb (n % 6)).vd fB.desk) ((fB.pb (n % 6)).ff fB.desk (fB.pb (n % 6)).nt) (ptsS (fB.pb (n % 6)).pts ((fB.pb (n % 6)).grp fB.desk) 4) (fB.pb (n % 6)).ver)).sJud (updf (judJ n) (n % 8) (wr (judJ n (n % 8) + 1))) = gJ (n + 1)
  rw [e2]
  show ((gJ n).sEn 60 (updf (enJ n) n _)).sJud (judJ (n + 1)) = gJ (n + 1)
  rw [e1]
  rfl
