abbrev MS.n1 (s : MS) : Nat := s.st.n
abbrev MS.ou1 (s : MS) : Nat := s.ou.n
section XR3
variable {K : KT} {P : PT} {I : IT} {m k sl inp : Nat} {s : MS} {g : Pg} {r : Rw} {x3 x4 x5 : Int} {k26 : IT → Nat → Int → Int → Int → Int → Int → Option IT}
/-- what a step needs on the stack -/
def nd (w : Int) : Nat := if w = 2 then 2 else if w = 3 then 2 else if w = 4 then 2 else if w = 6 then 2 else if w = 5 then 1 else if w = 7 then 1 else if w = 9 then 1 else 0
/-- a step that lacks numbers on the stack, or an input, crashes -/
theorem step_lacks {s : MS} (h9 : 0 ≤ g.s s.nx ∧ g.s s.nx ≤ 9) (h : s.st.n < nd (g.s s.nx) ∨ g.s s.nx = 0 ∧ ¬ s.rd < r.n) : ∃ s2, stepS g r s = (4, s2) := by
  unfold stepS
  dsimp only
  generalize g.s s.nx = w at h h9 ⊢
  generalize g.v s.nx = v
  have hc : w = 0 ∨ w = 1 ∨ w = 2 ∨ w = 3 ∨ w = 4 ∨ w = 5 ∨ w = 6 ∨ w = 7 ∨ w = 8 ∨ w = 9 := by omega
  rcases hc with rfl | rfl | rfl | rfl | rfl | rfl | rfl | rfl | rfl | rfl
  · rcases h with h | h
    · exact absurd h (Nat.not_lt_zero _)
    · rw [if_pos rfl, if_neg h.2]; exact ⟨_, rfl⟩
  · rcases h with h | h
    · exact absurd h (Nat.not_lt_zero _)
    · exact absurd h.1 (by decide)
  · have h : s.st.n < 2 := h.resolve_right (fun q => absurd q.1 (by decide))
    rw [if_neg (by decide), if_neg (by decide), if_pos (by decide)]; unfold MS.make; rw [if_neg (by show ¬ 2 ≤ s.st.n; omega)]; exact ⟨_, rfl⟩
  · have h : s.st.n < 2 := h.resolve_right (fun q => absurd q.1 (by decide))
    rw [if_neg (by decide), if_neg (by decide), if_pos (by decide)]; unfold MS.make; rw [if_neg (by show ¬ 2 ≤ s.st.n; omega)]; exact ⟨_, rfl⟩
  · have h : s.st.n < 2 := h.resolve_right (fun q => absurd q.1 (by decide))
    rw [if_neg (by decide), if_neg (by decide), if_pos (by decide)]; unfold MS.make; rw [if_neg (by show ¬ 2 ≤ s.st.n; omega)]; exact ⟨_, rfl⟩
  · have h : s.st.n < 1 := h.resolve_right (fun q => absurd q.1 (by decide))
    rw [if_neg (by decide), if_neg (by decide), if_neg (by decide), if_pos (by decide), if_neg (by show ¬ 1 ≤ s.st.n; omega)]; exact ⟨_, rfl⟩
  · have h : s.st.n < 2 := h.resolve_right (fun q => absurd q.1 (by decide))
    rw [if_neg (by decide), if_neg (by decide), if_neg (by decide), if_neg (by decide), if_pos (by decide)]; unfold MS.swap; rw [if_neg (by show ¬ 2 ≤ s.st.n; omega)]; exact ⟨_, rfl⟩
  · have h : s.st.n < 1 := h.resolve_right (fun q => absurd q.1 (by decide))
    rw [if_neg (by decide), if_neg (by decide), if_neg (by decide), if_neg (by decide), if_neg (by decide), if_pos (by decide), if_neg (by show ¬ 1 ≤ s.st.n; omega)]; exact ⟨_, rfl⟩
  · rcases h with h | h
    · exact absurd h (Nat.not_lt_zero _)
    · exact absurd h.1 (by decide)
  · have h : s.st.n < 1 := h.resolve_right (fun q => absurd q.1 (by decide))
    rw [if_neg (by decide), if_neg (by decide), if_neg (by decide), if_neg (by decide), if_neg (by decide), if_neg (by decide), if_neg (by decide)]; unfold MS.print; rw [if_neg (by show ¬ 1 ≤ s.st.n; omega)]; exact ⟨_, rfl⟩
theorem XRep.swap2 (hX : XD P m) (h : XRep P I m s k) {i : Nat} {v : Int} : XRep P (up I (P m 29) i v) m (s.stt (s.st.n, updf s.st.f i v)) k := by
  have h29 := Ne.symm (hX.1 29 (by decide))
  refine ⟨⟨by rw [up_b h29]; exact h.1.1, fun j hj => ?_⟩, ⟨by rw [up_b h29]; exact h.2.1.1, fun j hj => ?_⟩, by rw [up_b h29]; exact h.2.2.1, by rw [up_b h29]; exact h.2.2.2⟩
  · show _ = updf s.st.f i v j
    rw [up_apply]
    unfold updf
    by_cases c : j = i
    · rw [if_pos ⟨rfl, c⟩, if_pos c]
    · rw [if_neg (fun q => c q.2), if_neg c]; exact h.1.2 j hj
  · rw [up_b (hX.2 28 29 (by decide) (by decide) (by decide))]; exact h.2.1.2 j hj
end XR3
