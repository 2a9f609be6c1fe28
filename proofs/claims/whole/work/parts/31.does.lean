abbrev wthk (off : Int) (r q : Rw) (k : Nat) : Prop := ∀ j, j < r.1 → k ≤ j → -off ≤ r.2 j - q.2 j ∧ r.2 j - q.2 j ≤ off
section DO1
variable {tg : Tg} {K : KT} {P : PT} {I : IT} {x m a b t i c : Nat} {s : Hl} {ks : List Nat}
theorem x_does_l {r q : Rw} (hX : XD P m) (hr : XRow P I m 27 28 r) (hq : XRow P I m 31 32 q) (sr : smallR r) (sq : smallR q) (off : Int) (ho : off = 0 ∨ off = 1) : ∀ (d fuel k : Nat) (f : Int), d < fuel → k + d = r.1 → (f ≠ 0 → r.1 = q.1) →
    f_X8_does_72 K P fuel I m f off (k : Int) = some (if f ≠ 0 ∧ wthk off r q k then 0 else if r.1 = 0 then 5 else 1, I) := by
  have h117 : ∀ f : Int, f_X8_does_117 K P I m f = some (if f ≠ 0 then 0 else if r.1 = 0 then 5 else 1, I) := fun f => by
    unfold f_X8_does_117
    rw [hr.1]
    by_cases c : f = 0
    · rw [if_pos c, if_neg (show ¬ f ≠ 0 from fun z => z c)]
      by_cases c2 : r.1 = 0
      · rw [if_pos (by omega), if_pos c2]
      · rw [if_neg (by omega), if_neg c2]
    · rw [if_neg c, if_pos c]
  intro d
  induction d with
  | zero =>
    intro fuel k f hf hk he
    obtain ⟨n, rfl⟩ : ∃ n, fuel = n + 1 := ⟨fuel - 1, by omega⟩
    unfold f_X8_does_72
    rw [hr.1, if_pos (by omega), h117]
    congr 2
    by_cases c : f ≠ 0
    · rw [if_pos c, if_pos ⟨c, fun j h1 h2 => by omega⟩]
    · rw [if_neg c, if_neg (show ¬ (f ≠ 0 ∧ wthk off r q k) from fun z => c z.1)]
  | succ d ih =>
    intro fuel k f hf hk he
    obtain ⟨n, rfl⟩ : ∃ n, fuel = n + 1 := ⟨fuel - 1, by omega⟩
    unfold f_X8_does_72
    rw [hr.1, if_neg (by omega)]
    by_cases c : f = 0
    · rw [if_pos c, h117, if_neg (show ¬ f ≠ 0 from fun z => z c), if_neg (show ¬ (f ≠ 0 ∧ wthk off r q k) from fun z => z.1 c)]
    · have h8 : r.1 ≤ 8 := sr.1
      have hb1 := sr.2 k (by omega)
      have heq := he c
      have hb2 := sq.2 k (by omega)
      rw [if_neg c, ck_t (by omega), ck_t (by omega), Int.toNat_natCast, hr.2 k (by omega), hq.2 k (by omega), wr_id (x := r.2 k - q.2 k) (by omega) (by omega), wr_id (x := -off) (by omega) (by omega), x_isIn, bp_s, show wr ((k : Int) + 1) = ((k + 1 : Nat) : Int) by rw [wr_id (by omega) (by omega)]; rfl]
      rw [ih n (k + 1) _ (by omega) (by omega) (fun _ => heq)]
      congr 2
      by_cases c2 : -off ≤ r.2 k - q.2 k ∧ r.2 k - q.2 k ≤ off
      · rw [if_pos c2]
        by_cases z : wthk off r q (k + 1)
        · rw [if_pos ⟨by decide, z⟩, if_pos ⟨c, fun j h1 h2 => by
            by_cases e : j = k
            · rw [e]; exact c2
            · exact z j h1 (by omega)⟩]
        · rw [if_neg (show ¬ ((1 : Int) ≠ 0 ∧ wthk off r q (k + 1)) from fun y => z y.2), if_neg (show ¬ (f ≠ 0 ∧ wthk off r q k) from fun y => z (fun j h1 h2 => y.2 j h1 (by omega)))]
      · rw [if_neg c2, if_neg (show ¬ ((0 : Int) ≠ 0 ∧ wthk off r q (k + 1)) from fun y => y.1 rfl), if_neg (show ¬ (f ≠ 0 ∧ wthk off r q k) from fun y => c2 (y.2 k (by omega) (Nat.le_refl _)))]
theorem XRow.frX {r : Rw} (hX : XD P m) (h : XRow P I m 31 32 r) {I' : IT} (hf : FrX P m I I') : XRow P I' m 31 32 r := ⟨by rw [hf.2 31 (by decide) (by decide) (by decide) (by decide)]; exact h.1, fun j hj => by rw [hf.1 (P m 32) (hX.1 32 (by decide)) (hX.2 32 28 (by decide) (by decide) (by decide)) (hX.2 32 29 (by decide) (by decide) (by decide))]; exact h.2 j hj⟩
/-- the model: how a program does with an input, for a problem -/
theorem x_does {p sl inp : Nat} {g : Pg} {r : Rw} (h : MH tg P I m s) (hs : s.ok) (hp : p < s.np) (hg : g.ok) (hr : r.ok) (hsl : sl < 67) (hin : inp < 73) (hP : XPg P I m sl g) (hR : XIn P I m inp r) :
    ∃ I', f_X8_does K P I m p sl inp = some (tryS g (s.pb p).lim (s.pb p).chk r (runA (s.pb p).sol r 500).o, I') ∧ MH tg P I' m s ∧ I' m 38 = I m 38 ∧ FrY tg m I I' := by
  have hX := h.1.xd
  have hnp := hs.2.2.1
  have hb := hs.2.2.2.1 p hp
  obtain ⟨I1, u1, u2, u3, u4, u5⟩ := x_answers (K := K) h hs hb.2.2.1 hr (sl := 1 + p) (inp := inp) (by omega) hin (h.2.2.2.1 p hp).2.1 hR
  have w1 := u5.w h.1
  have hP1 : XPg P I1 m sl g := hP.fw hg.1 w1 (by omega) (fun j _ => by omega)
  have hR1 : XIn P I1 m inp r := hR.fw hr.1 w1 (by omega) (fun j _ => by omega)
  obtain ⟨I2, k1, k2, k3, -, k5⟩ := x_runs (K := K) hX hg hr hsl hin (s.pb p).lim hb.1.2 hP1 hR1
  have u6 := u2.frX hX k5
  have so : smallR (runA g r (s.pb p).lim).o := runA_ou hg hr _
  have sa : smallR (runA (s.pb p).sol r 500).o := runA_ou hb.2.2.1 hr _
  have h2 : MH tg P I2 m s := u3.y hs (k5.y h.1)
  unfold f_X8_does tryS
  rw [wr_id (x := 1 + (p : Int)) (by omega) (by omega), show 1 + (p : Int) = ((1 + p : Nat) : Int) by omega, u1, bi_s, ck_t (by omega), Int.toNat_natCast, (u3.2.2.2.1 p hp).1.1, k1, bp_s, k2]
  refine ⟨I2, ?_, h2, by rw [k5.2 38 (by decide) (by decide) (by decide) (by decide)]; exact u4, u5.tr (k5.y h.1)⟩
  by_cases c : (runA g r (s.pb p).lim).e = 0
  · rw [if_pos c, if_pos c, k3.1, u6.1]
    generalize (runA g r (s.pb p).lim).o = o at so k3 ⊢
    generalize (runA (s.pb p).sol r 500).o = q at sa u6 ⊢
    have key : ∀ (off f : Int), (off = 0 ∨ off = 1) → (f ≠ 0 ↔ o.1 = q.1) → f_X8_does_67 K P I2 m f off = some ((if wth off o q then 0 else if o.1 = 0 then 5 else 1), I2) := fun off f ho hf => by
      unfold f_X8_does_67
      have := so.1
      rw [show (0 : Int) = ((0 : Nat) : Int) from rfl, x_does_l hX k3 u6 so sa off ho o.1 FU 0 f (by unfold FU; omega) (by omega) hf.mp]
      congr 2
      by_cases z : wth off o q
      · rw [if_pos z, if_pos ⟨hf.mpr z.1, fun j h1 _ => z.2 j h1⟩]; rfl
      · rw [if_neg z, if_neg (show ¬ (f ≠ 0 ∧ wthk off o q 0) from fun y => z ⟨hf.mp y.1, fun j h1 => y.2 j h1 (Nat.zero_le _)⟩)]
    have k50 : ∀ f : Int, (f ≠ 0 ↔ o.1 = q.1) → f_X8_does_50 K P I2 m p f = some ((if wth (if (s.pb p).chk = 1 then 1 else 0) o q then 0 else if o.1 = 0 then 5 else 1), I2) := fun f hf => by
      unfold f_X8_does_50
      rw [ck_t (by omega), Int.toNat_natCast, (h2.2.2.2.1 p hp).1.2.1]
      by_cases c1 : (s.pb p).chk = 1
      · rw [if_pos c1, if_pos c1, key 1 f (Or.inr rfl) hf]
      · rw [if_neg c1, if_neg c1, key 0 f (Or.inl rfl) hf]
    by_cases e : o.1 = q.1
    · rw [if_pos (by omega), k50 1 ⟨fun _ => e, fun _ => by decide⟩]
    · rw [if_neg (by omega), k50 0 ⟨fun z => absurd rfl z, fun z => absurd z e⟩]
  · rw [if_neg c, if_neg c]
end DO1
