/-! ranges of the numbers of a state -/
def l16 (L : xS) : Prop := ∀ k j, k ≠ 0 → k < 4 → j < 4 → ∃ v, v < 16 ∧ L k j = nI v
def b11 (S : xS) : Prop := ∀ d, S 11 d = 0 ∨ S 11 d = 1
theorem b11_up {S : xS} {k d : Nat} {v : Int32} (h : b11 S) (hv : k ≠ 11 ∨ v = 0 ∨ v = 1) : b11 (xup S k d v) := by
  intro e
  by_cases hk : 11 = k
  · by_cases he : e = d
    · subst hk
      subst he
      rw [xup_same]
      rcases hv with hv | hv
      · exact absurd rfl hv
      · exact hv
    · rw [xup_ne (Or.inr he)]
      exact h e
  · rw [xup_ne (Or.inl hk)]
    exact h e
theorem b11_come {S : xS} {d p : Nat} (h : b11 S) : b11 (aComeS S d p) := by
  unfold aComeS
  split
  · refine b11_up (b11_up (b11_up h (Or.inr ?_)) (Or.inl (by decide))) (Or.inl (by decide))
    split
    · exact h d
    · split
      · exact Or.inr rfl
      · exact Or.inl rfl
  · exact h
theorem b11_rcv {S : xS} {x : xFr} (h : b11 S) : b11 (rcvS S x) := by
  unfold rcvS
  split
  · unfold aForget
    split
    · exact b11_up h (Or.inl (by decide))
    · exact h
  · exact b11_come h
theorem l16_up {L : xS} {k j : Nat} {v : Int32} (h : l16 L) (hv : k = 0 ∨ ∃ n, n < 16 ∧ v = nI n) : l16 (xup L k j v) := by
  intro a b ha ha4 hb
  by_cases he : a = k ∧ b = j
  · obtain ⟨rfl, rfl⟩ := he
    rw [xup_same]
    rcases hv with hv | hv
    · exact absurd hv ha
    · exact hv
  · have he' : a ≠ k ∨ b ≠ j := by
      by_cases h1 : a = k
      · exact Or.inr (fun h2 => he ⟨h1, h2⟩)
      · exact Or.inl h1
    rw [xup_ne he']
    exact h a b ha ha4 hb
theorem l16_rcv {L S : xS} {x : xFr} (h : l16 L) : l16 (rcvL L S x) := by
  unfold rcvL
  split
  · exact l16_up h (Or.inr (w15_ex _))
  · exact h
theorem xbf_04 (z : Int32) : xbf z = 0 ∨ xbf z = 4 := by
  unfold xbf
  split
  · exact Or.inl rfl
  · exact Or.inr rfl
