/-! THE NEW OBJECTS keep the law's invariant -/
section NEW
variable {m x a i j k n r t : Nat} {μ ν : zM}
theorem s_new (c2 : ∀ j, μ (x + 1 + 2) j = -1) (cs : ∀ j, μ (x + 1 + 1) j = 0 ∧ μ (x + 1 + 3) j = 0 ∧ μ (x + 1 + 4) j = 0 ∧ μ (x + 1 + 5) j = 0 ∧ μ (x + 1 + 6) j = 0) (c6 : μ (x + 1) 6 = 0) (c7 : μ (x + 1) 7 = 0) (c8 : μ (x + 1) 8 = 0) (x4 : μ x 4 = 0) (x7 : μ x 7 = 0) (p0 : ∀ r, r < 6 → ν (m + 1) r = -1) (p6 : ∀ j, 6 ≤ j → ν (m + 1) j = 0) (f3 : ν m 3 = 0) (f11 : ν m 11 = 0) (f15 : ν m 15 = 0) (f16 : ν m 16 = 0) : Iv false x m μ ν := by
  refine ⟨⟨⟨⟨fun r hr => ?_, fun r n k hr hn hk => ?_, fun r n hr hn => ?_, fun r hr => ?_, fun t ht => ?_, fun t i ht hi => ⟨?_, ?_⟩, ?_, ?_, ?_⟩, fun r hr => Or.inl (c2 r), fun r p hr hp => ⟨0, (cs _).1, Or.inl (by omega), Or.inl (cs _).1, ⟨0, by omega, (cs _).1⟩, ⟨0, by omega, (cs _).1⟩, trivial⟩, fun r hr => ⟨0, by omega, (cs r).2.1⟩, ⟨fun _ => 0, fun t ht => (cs t).2.2.1, Nat.zero_le _, Nat.zero_le _, Nat.zero_le _, Nat.zero_le _, Nat.zero_le _⟩, fun i hi => ⟨0, by omega, (cs i).2.2.2.1⟩, ⟨0, by omega, c6⟩, ⟨0, by omega, c7⟩, ⟨0, by omega, c8⟩⟩, Or.inl ⟨x4, f11⟩, f3⟩, fun _ => f16, fun z => Bool.noConfusion z, 0, by omega, x7, f15⟩
  · exact (p0 r hr).trans (c2 r).symm
  · exact (p6 _ (by omega)).trans (cs _).1.symm
  · exact (p6 _ (by omega)).trans (cs _).1.symm
  · exact (p6 _ (by omega)).trans (cs _).2.1.symm
  · exact (p6 _ (by omega)).trans (cs _).2.2.1.symm
  · exact (p6 _ (by omega)).trans (cs _).2.2.2.1.symm
  · exact (p6 _ (by omega)).trans (cs _).2.2.2.2.symm
  · exact (p6 _ (by omega)).trans c6.symm
  · exact (p6 _ (by omega)).trans c7.symm
  · exact (p6 _ (by omega)).trans c8.symm
end NEW
