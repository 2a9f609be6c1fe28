/-! WHAT THE CALLS ARE, by themselves: programs, rows, runs, as functions; the class and the model are each held against these -/
theorem up_apply {α : Type} (f : Nat → Nat → α) (a k : Nat) (v : α) (b j : Nat) : up f a k v b j = if b = a ∧ j = k then v else f b j := rfl
/-- a row: its length, its numbers -/
abbrev Rw : Type := Nat × (Nat → Int)
abbrev Rw.n (r : Rw) : Nat := r.1
abbrev Rw.f (r : Rw) : Nat → Int := r.2
/-- a program: its length, its sorts, its numbers -/
abbrev Pg : Type := Nat × (Nat → Int) × (Nat → Int)
abbrev Pg.n (g : Pg) : Nat := g.1
abbrev Pg.s (g : Pg) : Nat → Int := g.2.1
abbrev Pg.v (g : Pg) : Nat → Int := g.2.2
def updf {α : Type} (f : Nat → α) (k : Nat) (v : α) : Nat → α := fun j => if j = k then v else f j
theorem updf_s {α : Type} (f : Nat → α) (k : Nat) (v : α) : updf f k v k = v := if_pos rfl
theorem updf_n {α : Type} (f : Nat → α) {k j : Nat} (v : α) (h : j ≠ k) : updf f k v j = f j := if_neg h
def Rw.push (r : Rw) (v : Int) : Rw := ⟨r.n + 1, updf r.f r.n v⟩
/-- a program's instructions are as the desk lets them be -/
def Pg.ok (g : Pg) : Prop := g.n ≤ 16 ∧ ∀ j, j < g.n → (0 ≤ g.s j ∧ g.s j ≤ 9) ∧ (-99 ≤ g.v j ∧ g.v j ≤ 99)
def Rw.ok (r : Rw) : Prop := r.n ≤ 4 ∧ ∀ j, j < r.n → -9 ≤ r.f j ∧ r.f j ≤ 9
/-- the machine at work -/
abbrev MS : Type := Nat × Nat × Rw × Rw
abbrev MS.nx (s : MS) : Nat := s.1
abbrev MS.rd (s : MS) : Nat := s.2.1
abbrev MS.st (s : MS) : Rw := s.2.2.1
abbrev MS.ou (s : MS) : Rw := s.2.2.2
abbrev MS.nxt (s : MS) (k : Nat) : MS := (k, s.2)
abbrev MS.rdt (s : MS) (k : Nat) : MS := (s.1, k, s.2.2)
abbrev MS.stt (s : MS) (r : Rw) : MS := (s.1, s.2.1, r, s.2.2.2)
abbrev MS.out (s : MS) (r : Rw) : MS := (s.1, s.2.1, s.2.2.1, r)
def MS.put (s : MS) (v : Int) : Int × MS := if s.st.n < 8 then (0, s.stt (s.st.push v)) else (3, s)
def MS.go (s : MS) (n : Nat) (v : Int) : Int × MS := if 0 ≤ v ∧ v ≤ (n : Int) then (0, s.nxt v.toNat) else (4, s)
def mk3 (w l u : Int) : Int := if w = 2 then l + u else if w = 3 then l - u else l * u
def MS.made (s : MS) (m : Int) : Int × MS := if -999999 ≤ m ∧ m ≤ 999999 then (0, s.stt (s.st.n - 1, updf s.st.f (s.st.n - 2) m)) else (4, s)
def MS.make (s : MS) (w : Int) : Int × MS := if 2 ≤ s.st.n then s.made (mk3 w (s.st.f (s.st.n - 2)) (s.st.f (s.st.n - 1))) else (4, s)
def MS.swap (s : MS) : Int × MS := if 2 ≤ s.st.n then (0, s.stt (s.st.n, updf (updf s.st.f (s.st.n - 2) (s.st.f (s.st.n - 1))) (s.st.n - 1) (s.st.f (s.st.n - 2)))) else (4, s)
def MS.print (s : MS) : Int × MS := if 1 ≤ s.st.n then (if s.ou.n < 8 then (0, (s.stt (s.st.n - 1, s.st.f)).out (s.ou.push (s.st.f (s.st.n - 1)))) else (3, s)) else (4, s)
def MS.pop (s : MS) : MS := s.stt (s.st.n - 1, s.st.f)
/-- one step: 0 and the machine behind it, or how it fails -/
def stepS (g : Pg) (r : Rw) (s0 : MS) : Int × MS :=
  let w := g.s s0.nx
  let v := g.v s0.nx
  let s := s0.nxt (s0.nx + 1)
  if w = 0 then (if s.rd < r.n then (s.rdt (s.rd + 1)).put (r.f s.rd) else (4, s))
  else if w = 1 then s.put v
  else if w = 2 ∨ w = 3 ∨ w = 4 then s.make w
  else if w = 5 then (if 1 ≤ s.st.n then s.put (s.st.f (s.st.n - 1)) else (4, s))
  else if w = 6 then s.swap
  else if w = 7 then (if 1 ≤ s.st.n then (if s.st.f (s.st.n - 1) = 0 then s.pop.go g.n v else (0, s.pop)) else (4, s))
  else if w = 8 then s.go g.n v
  else s.print
/-- a run: of k steps at most; its end, the steps that are left, its output -/
def runS (g : Pg) (r : Rw) : Nat → MS → Int × Nat × Rw
  | k, s => if s.nx = g.n then (0, k, s.ou) else match k with
    | 0 => (2, 0, s.ou)
    | k + 1 => if (stepS g r s).1 = 0 then runS g r k (stepS g r s).2 else ((stepS g r s).1, k, s.ou)
def ms0 : MS := ⟨0, 0, ⟨0, fun _ => 0⟩, ⟨0, fun _ => 0⟩⟩
/-- a run from its start: end, steps, output -/
abbrev Rn : Type := Int × Nat × Rw
abbrev Rn.e (r : Rn) : Int := r.1
abbrev Rn.k (r : Rn) : Nat := r.2.1
abbrev Rn.o (r : Rn) : Rw := r.2.2
def runA (g : Pg) (r : Rw) (lim : Nat) : Rn := ⟨(runS g r lim ms0).1, lim - (runS g r lim ms0).2.1, (runS g r lim ms0).2.2⟩
/-- what a machine at work keeps -/
def MS.ok (g : Pg) (r : Rw) (s : MS) : Prop := s.nx ≤ g.n ∧ s.rd ≤ r.n ∧ s.st.n ≤ 8 ∧ s.ou.n ≤ 8 ∧ ∀ j, j < s.st.n → -999999 ≤ s.st.f j ∧ s.st.f j ≤ 999999
theorem put_ok {g : Pg} {r : Rw} {s : MS} {v : Int} (h : s.ok g r) (hv : -999999 ≤ v ∧ v ≤ 999999) : (s.put v).2.ok g r := by
  unfold MS.put
  obtain ⟨h1, h2, h3, h4, h5⟩ := h
  split
  · refine ⟨h1, h2, by show s.st.n + 1 ≤ 8; omega, h4, fun j hj => ?_⟩
    show -999999 ≤ updf s.st.f s.st.n v j ∧ updf s.st.f s.st.n v j ≤ 999999
    have hj : j < s.st.n + 1 := hj
    unfold updf
    split
    · exact hv
    · exact h5 j (by omega)
  · exact ⟨h1, h2, h3, h4, h5⟩
theorem go_ok {g : Pg} {r : Rw} {s : MS} {v : Int} (h : s.ok g r) : (s.go g.n v).2.ok g r := by
  unfold MS.go
  obtain ⟨h1, h2, h3, h4, h5⟩ := h
  split
  · exact ⟨by show v.toNat ≤ g.n; omega, h2, h3, h4, h5⟩
  · exact ⟨h1, h2, h3, h4, h5⟩
theorem pop_ok {g : Pg} {r : Rw} {s : MS} (h : s.ok g r) : s.pop.ok g r := by
  obtain ⟨h1, h2, h3, h4, h5⟩ := h
  exact ⟨h1, h2, by show s.st.n - 1 ≤ 8; omega, h4, fun j hj => h5 j (by have : j < s.st.n - 1 := hj; omega)⟩
theorem make_ok {g : Pg} {r : Rw} {s : MS} {w : Int} (h : s.ok g r) : (s.make w).2.ok g r := by
  obtain ⟨h1, h2, h3, h4, h5⟩ := h
  unfold MS.make
  split
  · unfold MS.made
    split
    · rename_i hm
      refine ⟨h1, h2, by show s.st.n - 1 ≤ 8; omega, h4, fun j hj => ?_⟩
      have hj : j < s.st.n - 1 := hj
      show -999999 ≤ updf _ _ _ j ∧ updf _ _ _ j ≤ 999999
      unfold updf
      split
      · exact hm
      · exact h5 j (by omega)
    · exact ⟨h1, h2, h3, h4, h5⟩
  · exact ⟨h1, h2, h3, h4, h5⟩
theorem swap_ok {g : Pg} {r : Rw} {s : MS} (h : s.ok g r) : s.swap.2.ok g r := by
  obtain ⟨h1, h2, h3, h4, h5⟩ := h
  unfold MS.swap
  split
  · refine ⟨h1, h2, h3, h4, fun j hj => ?_⟩
    have hj : j < s.st.n := hj
    show -999999 ≤ updf _ _ _ j ∧ updf _ _ _ j ≤ 999999
    unfold updf
    split
    · exact h5 _ (by omega)
    · split
      · exact h5 _ (by omega)
      · exact h5 _ hj
  · exact ⟨h1, h2, h3, h4, h5⟩
theorem print_ok {g : Pg} {r : Rw} {s : MS} (h : s.ok g r) : s.print.2.ok g r := by
  obtain ⟨h1, h2, h3, h4, h5⟩ := h
  unfold MS.print
  split
  · split
    · exact ⟨h1, h2, by show s.st.n - 1 ≤ 8; omega, by show s.ou.n + 1 ≤ 8; omega, fun j hj => h5 j (by have : j < s.st.n - 1 := hj; omega)⟩
    · exact ⟨h1, h2, h3, h4, h5⟩
  · exact ⟨h1, h2, h3, h4, h5⟩
theorem rng9 {x : Int} (h : -9 ≤ x ∧ x ≤ 9) : -999999 ≤ x ∧ x ≤ 999999 := ⟨by omega, by omega⟩
theorem stepS_ok {g : Pg} {r : Rw} {s : MS} (hg : g.ok) (hr : r.ok) (h : s.ok g r) (hn : s.nx < g.n) : (stepS g r s).2.ok g r := by
  have h1 : (s.nxt (s.nx + 1)).ok g r := ⟨by show s.nx + 1 ≤ g.n; omega, h.2⟩
  have hv := (hg.2 s.nx hn).2
  unfold stepS
  dsimp only
  split
  · split
    · rename_i h2
      have h2 : s.rd < r.n := h2
      have h3 := hr.2 s.rd h2
      exact put_ok ⟨h1.1, by show s.rd + 1 ≤ r.n; omega, h1.2.2⟩ (rng9 h3)
    · exact h1
  · split
    · exact put_ok h1 ⟨by omega, by omega⟩
    · split
      · exact make_ok h1
      · split
        · split
          · rename_i h9
            have h9 : 1 ≤ s.st.n := h9
            exact put_ok h1 (h.2.2.2.2 _ (by show s.st.n - 1 < s.st.n; omega))
          · exact h1
        · split
          · exact swap_ok h1
          · split
            · split
              · split
                · exact go_ok (pop_ok h1)
                · exact pop_ok h1
              · exact h1
            · split
              · exact go_ok h1
              · exact print_ok h1
