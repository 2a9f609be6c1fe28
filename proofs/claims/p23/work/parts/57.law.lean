/-! THE LAW'S LOOP -/
theorem codeS_co {s : Hl} {w v : Int} : (codeS s w v).1 = 0 ∨ (codeS s w v).1 = 1 ∨ (codeS s w v).1 = 2 := by
  unfold codeS
  repeat' split
  all_goals first | exact Or.inl rfl | exact Or.inr (Or.inl rfl) | exact Or.inr (Or.inr rfl)
theorem inputS_co {s : Hl} {v : Int} : (inputS s v).1 = 0 ∨ (inputS s v).1 = 1 ∨ (inputS s v).1 = 2 := by
  unfold inputS
  repeat' split
  all_goals first | exact Or.inl rfl | exact Or.inr (Or.inl rfl) | exact Or.inr (Or.inr rfl)
theorem callRun_co {s : Hl} {w v : Int} : (callRun s w v).1 = 0 ∨ (callRun s w v).1 = 1 := by
  unfold callRun
  repeat' split
  all_goals first | exact Or.inl rfl | exact Or.inr rfl
theorem problemS_co {s : Hl} {w v : Int} : (problemS s w v).1 = 0 ∨ (problemS s w v).1 = 1 ∨ (problemS s w v).1 = 2 := by
  unfold problemS
  repeat' split
  all_goals first | exact Or.inl rfl | exact Or.inr (Or.inl rfl) | exact Or.inr (Or.inr rfl)
theorem testS_co {s : Hl} {w v : Int} : (testS s w v).1 = 0 ∨ (testS s w v).1 = 3 ∨ (testS s w v).1 = 2 := by
  unfold testS
  repeat' split
  all_goals first | exact Or.inl rfl | exact Or.inr (Or.inl rfl) | exact Or.inr (Or.inr rfl)
theorem pointsS_co {s : Hl} {p w v : Int} : (pointsS s p w v).1 = 0 ∨ (pointsS s p w v).1 = 3 ∨ (pointsS s p w v).1 = 1 := by
  unfold pointsS
  repeat' split
  all_goals first | exact Or.inl rfl | exact Or.inr (Or.inl rfl) | exact Or.inr (Or.inr rfl)
theorem mendS_co {s : Hl} {w v : Int} : (mendS s w v).1 = 0 ∨ (mendS s w v).1 = 3 ∨ (mendS s w v).1 = 1 ∨ (mendS s w v).1 = 2 := by
  unfold mendS
  repeat' split
  all_goals first | exact Or.inl rfl | exact Or.inr (Or.inl rfl) | exact Or.inr (Or.inr (Or.inl rfl)) | exact Or.inr (Or.inr (Or.inr rfl))
theorem answerS_co {s : Hl} {p w v : Int} : (answerS s p w v).1 = 0 ∨ (answerS s p w v).1 = 3 := by
  unfold answerS
  repeat' split
  all_goals first | exact Or.inl rfl | exact Or.inr rfl
theorem enterS_co {s : Hl} {w v : Int} : (enterS s w v).1 = 0 ∨ (enterS s w v).1 = 3 ∨ (enterS s w v).1 = 2 := by
  unfold enterS
  repeat' split
  all_goals first | exact Or.inl rfl | exact Or.inr (Or.inl rfl) | exact Or.inr (Or.inr rfl)
theorem passS_co {s : Hl} {v : Int} : (passS s v).1 = 0 ∨ (passS s v).1 = 1 ∨ (passS s v).1 = 2 := by
  unfold passS
  repeat' split
  all_goals first | exact Or.inl rfl | exact Or.inr (Or.inl rfl) | exact Or.inr (Or.inr rfl)
theorem rejudgeS_co {s : Hl} {v : Int} : (rejudgeS s v).1 = 0 ∨ (rejudgeS s v).1 = 3 := by
  unfold rejudgeS
  repeat' split
  all_goals first | exact Or.inl rfl | exact Or.inr rfl
theorem entryS_co {s : Hl} {w v : Int} : (entryS s w v).1 = 0 ∨ (entryS s w v).1 = 3 ∨ (entryS s w v).1 = 1 := by
  unfold entryS
  repeat' split
  all_goals first | exact Or.inl rfl | exact Or.inr (Or.inl rfl) | exact Or.inr (Or.inr rfl)
theorem likenessS_co {s : Hl} {w v : Int} : (likenessS s w v).1 = 0 ∨ (likenessS s w v).1 = 3 := by
  unfold likenessS
  repeat' split
  all_goals first | exact Or.inl rfl | exact Or.inr rfl
theorem freezeS_co {s : Hl} {v : Int} : (freezeS s v).1 = 0 ∨ (freezeS s v).1 = 1 := by
  unfold freezeS
  repeat' split
  all_goals first | exact Or.inl rfl | exact Or.inr rfl
theorem boardS_co {s : Hl} {p w v : Int} : (boardS s p w v).1 = 0 ∨ (boardS s p w v).1 = 3 ∨ (boardS s p w v).1 = 1 := by
  unfold boardS
  by_cases c1 : 0 ≤ p ∧ p < 8
  · rw [if_pos c1]
    by_cases c2 : 0 ≤ v ∧ v ≤ 4
    · rw [if_pos c2]; exact Or.inl rfl
    · rw [if_neg c2]; exact Or.inr (Or.inr rfl)
  · rw [if_neg c1]; exact Or.inr (Or.inl rfl)
theorem placeAnewS_co {s : Hl} {v : Int} : (placeAnewS s v).1 = 0 ∨ (placeAnewS s v).1 = 3 := by
  unfold placeAnewS
  repeat' split
  all_goals first | exact Or.inl rfl | exact Or.inr rfl
theorem hackS_co {s : Hl} {w v : Int} : (hackS s w v).1 = 0 ∨ (hackS s w v).1 = 3 ∨ (hackS s w v).1 = 2 := by
  unfold hackS
  by_cases c1 : 0 ≤ w ∧ w < 8
  · rw [if_pos c1]
    by_cases c2 : 0 ≤ v ∧ v < (s.ne : Int)
    · rw [if_pos c2]
      unfold hackIn
      by_cases c3 : hackC s w.toNat v.toNat
      · rw [if_pos c3]
        by_cases c4 : hackV s v.toNat = 0
        · rw [if_pos c4]; exact Or.inl rfl
        · rw [if_neg c4]; exact Or.inl rfl
      · rw [if_neg c3]; exact Or.inr (Or.inr rfl)
    · rw [if_neg c2]; exact Or.inr (Or.inl rfl)
  · rw [if_neg c1]; exact Or.inr (Or.inl rfl)
/-- a number of the script -/
def sv (xs : Nat → Int32) (n : Nat) : Int := (xs n).toInt
theorem rg_sv {xs : Nat → Int32} {n : Nat} : rg (sv xs n) := rg_toInt _
section LW1
variable {p : Program} {l : Launch} {e : Env} {s : State} {m : MethodId} {args : Array Value} {below : List Frame} {meth : Method} {c : Code} {H : Heap} {locs : List Loc} {cells slots : Nat} {Q : State → Prop}
variable {D : va_G} {cy : Nat → ClassId} {b N : Nat} {xs : Nat → Int32} {L : List Nat} {K : KT} {P : PT} {J I : IT} {ls : Array Slot} {rest : List Value} {x mo o i pc : Nat}
theorem FS.kl {B : Nat} {H0 : Heap} (hF : FS D cy B L K P J H0 I H locs) : KL K L := ⟨hF.2.2.2.1, fun _ => by
  by_cases z : K 1 = 0
  · omega
  · obtain ⟨k, hk⟩ := hF.get z
    have h1 := hF.2.1.2 k _ hk
    have h2 := hF.2.2.2.2.1
    have h3 : B ≤ 1 := h1
    omega⟩
end LW1
