/-! VERDICTS -/
def Pb.tryE (b : Pb) (g : Pg) (j : Nat) : Int := tryS g b.lim b.chk (b.tr j).1 (b.ans j)
/-- the groups met, and failed, by the first k tests -/
def Pb.msk (b : Pb) (g : Pg) : Nat → Int × Int
  | 0 => (0, 0)
  | k + 1 => (bor (Pb.msk b g k).1 (bsl 1 (b.tr k).2), if b.tryE g k = 0 then (Pb.msk b g k).2 else bor (Pb.msk b g k).2 (bsl 1 (b.tr k).2))
/-- the first failed of the first k tests, or -1 -/
def Pb.ff (b : Pb) (g : Pg) : Nat → Int
  | 0 => -1
  | k + 1 => if Pb.ff b g k = -1 then (if b.tryE g k = 0 then -1 else (k : Int)) else Pb.ff b g k
def ptsS (pts : Nat → Int) (z : Int) : Nat → Int
  | 0 => 0
  | k + 1 => ptsS pts z k + (if ban (bsr z (k : Int)) 1 = 0 then 0 else pts k)
def Pb.grp (b : Pb) (g : Pg) : Int := ban (b.msk g b.nt).1 (bxo (b.msk g b.nt).2 (-1))
def Pb.vd (b : Pb) (g : Pg) : Int := if b.ff g b.nt = -1 then 0 else b.tryE g (b.ff g b.nt).toNat
def judE (s : Hl) (e : Nat) : Hl :=
  (s.sE1 e (mkEn (s.en e).team (s.en e).prob (s.en e).whn (s.en e).prg ((s.pb (s.en e).prob).vd (s.en e).prg) ((s.pb (s.en e).prob).ff (s.en e).prg (s.pb (s.en e).prob).nt) (ptsS (s.pb (s.en e).prob).pts ((s.pb (s.en e).prob).grp (s.en e).prg) 4) (s.pb (s.en e).prob).ver)).sJud (updf s.jud (s.en e).team (wr (s.jud (s.en e).team + 1)))
theorem ff_rg {b : Pb} {g : Pg} : ∀ k, Pb.ff b g k = -1 ∨ (0 ≤ Pb.ff b g k ∧ Pb.ff b g k < (k : Int))
  | 0 => Or.inl rfl
  | k + 1 => by
    show (if Pb.ff b g k = -1 then (if b.tryE g k = 0 then -1 else (k : Int)) else Pb.ff b g k) = -1 ∨ _ ≤ (if Pb.ff b g k = -1 then (if b.tryE g k = 0 then -1 else (k : Int)) else Pb.ff b g k) ∧ (if Pb.ff b g k = -1 then (if b.tryE g k = 0 then -1 else (k : Int)) else Pb.ff b g k) < ((k + 1 : Nat) : Int)
    rcases ff_rg (b := b) (g := g) k with h | h
    · rw [if_pos h]
      by_cases c : b.tryE g k = 0
      · rw [if_pos c]; exact Or.inl rfl
      · rw [if_neg c]; exact Or.inr ⟨by omega, by omega⟩
    · rw [if_neg (by omega)]
      exact Or.inr ⟨h.1, by omega⟩
theorem pts_rg {pts : Nat → Int} {z : Int} (h : ∀ k, k < 4 → 0 ≤ pts k ∧ pts k ≤ 100) : ∀ k, k ≤ 4 → 0 ≤ ptsS pts z k ∧ ptsS pts z k ≤ 100 * (k : Int)
  | 0, _ => ⟨Int.le_refl _, Int.le_refl _⟩
  | k + 1, hk => by
    have h1 := pts_rg (z := z) h k (by omega)
    have h2 := h k (by omega)
    show 0 ≤ ptsS pts z k + (if ban (bsr z (k : Int)) 1 = 0 then 0 else pts k) ∧ ptsS pts z k + (if ban (bsr z (k : Int)) 1 = 0 then 0 else pts k) ≤ 100 * ((k + 1 : Nat) : Int)
    by_cases c : ban (bsr z (k : Int)) 1 = 0
    · rw [if_pos c]; omega
    · rw [if_neg c]; omega
/-- the lowest bit is 0 or 1 -/
theorem ban1 (x : Int) : ban x 1 = 0 ∨ ban x 1 = 1 := by
  unfold ban
  show ((Int32.ofInt x &&& Int32.ofInt 1).toBitVec).toInt = 0 ∨ ((Int32.ofInt x &&& Int32.ofInt 1).toBitVec).toInt = 1
  rw [Int32.toBitVec_and, show (Int32.ofInt 1).toBitVec = 1#32 by decide]
  generalize (Int32.ofInt x).toBitVec = y
  have h2 : (y &&& 1#32).toNat = y.toNat % 2 := by rw [BitVec.toNat_and]; exact Nat.and_one_is_mod _
  rw [BitVec.toInt_eq_toNat_of_lt (by rw [h2]; omega), h2]
  omega
theorem bor0 {x : Int} (h : rg x) : bor x 0 = x := by
  unfold bor
  rw [show Int32.ofInt 0 = (0 : Int32) from rfl, Int32.or_zero, fl_tI h]
section VE1
variable {tg : Tg} {K : KT} {P : PT} {I : IT} {x m a b t i c : Nat} {s : Hl} {ks : List Nat}
theorem h_ptsOf_l {pts : Nat → Int} (hp : ∀ k, k < 4 → I (P a 4) k = pts k) (h : ∀ k, k < 4 → 0 ≤ pts k ∧ pts k ≤ 100) (z : Int) : ∀ (d fuel k : Nat), d < fuel → k + d = 4 → f_X2_pointsOf_4 K P I fuel a z (ptsS pts z k) (k : Int) = some (ptsS pts z 4) := by
  intro d
  induction d with
  | zero =>
    intro fuel k hf hk
    obtain ⟨n, rfl⟩ : ∃ n, fuel = n + 1 := ⟨fuel - 1, by omega⟩
    obtain rfl : k = 4 := by omega
    unfold f_X2_pointsOf_4
    rw [if_pos (by decide)]
  | succ d ih =>
    intro fuel k hf hk
    obtain ⟨n, rfl⟩ : ∃ n, fuel = n + 1 := ⟨fuel - 1, by omega⟩
    have h1 := pts_rg (z := z) h k (by omega)
    have h2 := h k (by omega)
    have h3 := ih n (k + 1) (by omega) (by omega)
    have e : ptsS pts z (k + 1) = ptsS pts z k + (if ban (bsr z (k : Int)) 1 = 0 then 0 else pts k) := rfl
    unfold f_X2_pointsOf_4 f_X2_pointsOf_26
    rw [if_neg (by omega), show wr ((k : Int) + 1) = ((k + 1 : Nat) : Int) by rw [wr_id (by omega) (by omega)]; rfl]
    by_cases c : ban (bsr z (k : Int)) 1 = 0
    · rw [if_pos c]
      rw [e, if_pos c, Int.add_zero] at h3
      exact h3
    · rw [if_neg c, ck_t (by omega), Int.toNat_natCast, hp k (by omega), wr_id (by omega) (by omega)]
      rw [e, if_neg c] at h3
      exact h3
theorem h_ptsOf {pts : Nat → Int} (hp : ∀ k, k < 4 → I (P a 4) k = pts k) (h : ∀ k, k < 4 → 0 ≤ pts k ∧ pts k ≤ 100) (z : Int) : f_X2_pointsOf K P I a z = some (ptsS pts z 4) := h_ptsOf_l hp h z 4 FU 0 (by decide) (by decide)
end VE1
