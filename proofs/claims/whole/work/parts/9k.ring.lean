/-! CYCLES: the model's search -/
section RNG
variable {g h sn opn : Nat → Int32} {C E m q1 n a b c d e i j k t u v w x l cnt s : Nat} {μ μ' ν ν' m' : zM} {ρ : zE} {r : Int32}
def gp (R : Nat → Nat → Prop) : Nat → Nat → Nat → Prop
  | 0, a, b => a = b
  | k + 1, a, b => ∃ c, R a c ∧ gp R k c b
def ed0 (g h : Nat → Int32) (a b : Nat) : Prop := b < 1500 ∧ ∃ ch, ch < 6 ∧ g (a * 6 + ch) = nI b ∧ h (a * 6 + ch) = nI 0
theorem gp_snoc {R : Nat → Nat → Prop} : ∀ {k a b c : Nat}, gp R k a b → R b c → gp R (k + 1) a c
  | 0, a, b, c, h1, h2 => ⟨c, by have h1 : a = b := h1; rw [h1]; exact h2, rfl⟩
  | k + 1, a, b, c, ⟨y, h1, h2⟩, h3 => ⟨y, h1, gp_snoc h2 h3⟩
/-- no choice on a cycle ends a call -/
theorem cyc_0 (X : XE E m n μ ν) (hi : i < n) : cyc μ E i ↔ ∃ l, gp (ed0 (ν (m + 11)) (ν (m + 12))) (l + 1) i i := by
  have n5 := X.1.1
  have N := X.2.2.2.1
  have ed : ∀ a b, a < n → edg (μ (E + 11)) a b → b < n ∧ ovS (rC μ E a) ≤ ovS (rC μ E b) ∧ (ovS (rC μ E a) = ovS (rC μ E b) → ed0 (ν (m + 11)) (ν (m + 12)) a b) := by
    rintro a b ha ⟨hb, ch, h6, hg⟩
    rcases N (a * 6 + ch) (by omega) with ⟨z, -⟩ | ⟨t, e, t1, e2, z1, z2, z3, z4⟩
    · rw [z] at hg; exact absurd hg.symm (m4_n (by omega))
    · rw [z1] at hg
      obtain rfl : t = b := (n_eq (by omega) (by omega)).mp hg
      rw [show (a * 6 + ch) / 6 = a by omega] at z4
      refine ⟨t1, by omega, fun heq => ⟨hb, ch, h6, z2, ?_⟩⟩
      rw [z3, show e = 0 by omega]
  have key : ∀ k a b, a < n → pth (μ (E + 11)) k a b → b < n ∧ ovS (rC μ E a) ≤ ovS (rC μ E b) ∧ (ovS (rC μ E a) = ovS (rC μ E b) → gp (ed0 (ν (m + 11)) (ν (m + 12))) k a b) := by
    intro k
    induction k with
    | zero =>
      intro a b ha h
      have h : a = b := h
      subst h
      exact ⟨ha, Nat.le_refl _, fun _ => rfl⟩
    | succ k ih =>
      rintro a b ha ⟨c, h1, h2⟩
      obtain ⟨c1, c2, c3⟩ := ed a c ha h1
      obtain ⟨b1, b2, b3⟩ := ih c b c1 h2
      exact ⟨b1, by omega, fun heq => ⟨c, c3 (by omega), b3 (by omega)⟩⟩
  have back : ∀ k a b, a < n → gp (ed0 (ν (m + 11)) (ν (m + 12))) k a b → b < n ∧ pth (μ (E + 11)) k a b := by
    intro k
    induction k with
    | zero =>
      intro a b ha h
      have h : a = b := h
      subst h
      exact ⟨ha, rfl⟩
    | succ k ih =>
      rintro a b ha ⟨c, ⟨hc5, ch, h6, hg, -⟩, h2⟩
      rcases N (a * 6 + ch) (by omega) with ⟨-, z⟩ | ⟨t, e, t1, e2, z1, z2, z3, z4⟩
      · rw [z] at hg; exact absurd hg.symm (m4_n (by omega))
      · rw [z2] at hg
        obtain rfl : t = c := (n_eq (by omega) (by omega)).mp hg
        obtain ⟨b1, b2⟩ := ih t b t1 h2
        exact ⟨b1, t, ⟨hc5, ch, h6, z1⟩, b2⟩
  constructor
  · rintro ⟨k, h⟩
    exact ⟨k, (key (k + 1) i i hi h).2.2 rfl⟩
  · rintro ⟨l, h⟩
    exact ⟨l, (back (l + 1) i i hi h).2⟩
theorem cz_lt1 {P : Nat → Int32} (h0 : P a = nI 0) : ∀ k, a < k → cz P k < k
  | k + 1, hk => by
    have cl : ∀ k, cz P k ≤ k := by
      intro k
      induction k with
      | zero => exact Nat.le_refl _
      | succ k ih => rw [cz]; split <;> omega
    rw [cz]
    by_cases e : a = k
    · rw [← e, if_pos h0]
      have := cl a
      omega
    · have := cz_lt1 h0 k (by omega)
      split <;> omega
/-- where the search from s stands: k states gone through, and c choices of the next one -/
def RB (n s : Nat) (g h sn opn : Nat → Int32) (cnt k c : Nat) : Prop := opn 0 = nI s ∧ (∀ j, 1 ≤ j → j < cnt → ∃ v, v < n ∧ opn j = nI v ∧ v ≠ s ∧ sn v = nI 1 ∧ ∃ l, gp (ed0 g h) (l + 1) s v) ∧ (∀ v, v < n → sn v = nI 0 ∨ (sn v = nI 1 ∧ ∃ j, 1 ≤ j ∧ j < cnt ∧ opn j = nI v)) ∧ sn s = nI 0 ∧ cz sn n + 1 = cnt ∧ ∀ j v ch w, j < cnt → (j < k ∨ (j = k ∧ ch < c)) → opn j = nI v → v < n → ch < 6 → g (v * 6 + ch) = nI w → w < n → h (v * 6 + ch) = nI 0 → w ≠ s ∧ sn w = nI 1
theorem RB.node (R : RB n s g h sn opn cnt k c) (hs : s < n) (hk : j < cnt) : ∃ v, v < n ∧ opn j = nI v ∧ (v = s ∨ ∃ l, gp (ed0 g h) (l + 1) s v) := by
  by_cases j0 : j = 0
  · exact ⟨s, hs, by rw [j0]; exact R.1, Or.inl rfl⟩
  · obtain ⟨v, v1, v2, -, -, v5⟩ := R.2.1 j (by omega) hk
    exact ⟨v, v1, v2, Or.inr v5⟩
/-- nothing to do for a choice -/
theorem RB.skip (R : RB n s g h sn opn cnt k c) (n5 : n ≤ 1500) (hv : v < n) (hov : opn k = nI v) (hx : ∀ w, w < n → g (v * 6 + c) = nI w → h (v * 6 + c) = nI 0 → w ≠ s ∧ sn w = nI 1) : RB n s g h sn opn cnt k (c + 1) := by
  obtain ⟨r1, r2, r3, r4, r5, r6⟩ := R
  refine ⟨r1, r2, r3, r4, r5, fun j u ch w a1 a2 a3 a4 a5 a6 a7 a8 => ?_⟩
  by_cases e : j = k ∧ ch = c
  · obtain ⟨rfl, rfl⟩ := e
    rw [hov] at a3
    obtain rfl : v = u := (n_eq (by omega) (by omega)).mp a3
    exact hx w a7 a6 a8
  · exact r6 j u ch w a1 (by omega) a3 a4 a5 a6 a7 a8
/-- a new state -/
theorem RB.add (R : RB n s g h sn opn cnt k c) (n5 : n ≤ 1500) (hs : s < n) (hk : k < cnt) (hc : c < 6) (hv : v < n) (hov : opn k = nI v) (hrv : v = s ∨ ∃ l, gp (ed0 g h) (l + 1) s v) (hw : w < n) (hws : w ≠ s) (hsn : sn w = nI 0) (hg : g (v * 6 + c) = nI w) (hh : h (v * 6 + c) = nI 0) : RB n s g h (upd sn w (nI 1)) (upd opn cnt (nI w)) (cnt + 1) k (c + 1) ∧ cnt < n := by
  obtain ⟨r1, r2, r3, r4, r5, r6⟩ := R
  have s0 : upd sn w (nI 1) s = nI 0 := by rw [u_ne hws.symm]; exact r4
  have cn : cz (upd sn w (nI 1)) n = cnt := by
    rw [cz_upd (by decide) hsn, if_pos hw]; omega
  have lt := cz_lt1 s0 n hs
  have path : ∃ l, gp (ed0 g h) (l + 1) s w := by
    have ed : ed0 g h v w := ⟨by omega, c, hc, hg, hh⟩
    rcases hrv with rfl | ⟨l, hl⟩
    · exact ⟨0, w, ed, rfl⟩
    · exact ⟨l + 1, gp_snoc hl ed⟩
  refine ⟨⟨?_, fun j h1 h2 => ?_, fun u hu => ?_, s0, by omega, fun j u ch y a1 a2 a3 a4 a5 a6 a7 a8 => ?_⟩, by omega⟩
  · rw [u_ne (by omega)]; exact r1
  · by_cases e : j = cnt
    · exact ⟨w, hw, u_at e, hws, u_at rfl, path⟩
    · obtain ⟨u, u1, u2, u3, u4, u5⟩ := r2 j h1 (by omega)
      refine ⟨u, u1, by rw [u_ne e]; exact u2, u3, ?_, u5⟩
      by_cases eu : u = w
      · exact u_at eu
      · rw [u_ne eu]; exact u4
  · by_cases eu : u = w
    · exact Or.inr ⟨u_at eu, cnt, by omega, by omega, by rw [u_at rfl, eu]⟩
    · rw [u_ne eu]
      rcases r3 u hu with h1 | ⟨h1, j, h2, h3, h4⟩
      · exact Or.inl h1
      · exact Or.inr ⟨h1, j, h2, by omega, by rw [u_ne (by omega)]; exact h4⟩
  · have up : ∀ y, sn y = nI 1 → upd sn w (nI 1) y = nI 1 := fun y hy => by
      by_cases ey : y = w
      · exact u_at ey
      · rw [u_ne ey]; exact hy
    have ej : j ≠ cnt := by omega
    rw [u_ne ej] at a3
    by_cases e : j = k ∧ ch = c
    · obtain ⟨rfl, rfl⟩ := e
      rw [hov] at a3
      obtain rfl : v = u := (n_eq (by omega) (by omega)).mp a3
      rw [hg] at a6
      obtain rfl : w = y := (n_eq (by omega) (by omega)).mp a6
      exact ⟨hws, u_at rfl⟩
    · obtain ⟨h1, h2⟩ := r6 j u ch y (by omega) (by omega) a3 a4 a5 a6 a7 a8
      exact ⟨h1, up y h2⟩
theorem RB.end_ (R : RB n s g h sn opn cnt cnt 0) (n5 : n ≤ 1500) (hs : s < n) (hgn : ∀ a b, a < n → ed0 g h a b → b < n) : ¬ ∃ l, gp (ed0 g h) (l + 1) s s := by
  obtain ⟨r1, r2, r3, r4, r5, r6⟩ := R
  have st : ∀ v w, v < n → (v = s ∨ sn v = nI 1) → ed0 g h v w → w < n ∧ w ≠ s ∧ sn w = nI 1 := by
    rintro v w hv hsv hed
    have hw := hgn v w hv hed
    obtain ⟨-, ch, h6, hg, hh⟩ := hed
    refine ⟨hw, ?_⟩
    rcases hsv with rfl | h1
    · exact r6 0 v ch w (by omega) (Or.inl (by omega)) r1 hv h6 hg hw hh
    · rcases r3 v hv with h2 | ⟨-, j, h3, h4, h5⟩
      · rw [h2] at h1; exact absurd h1 (by decide)
      · exact r6 j v ch w h4 (Or.inl h4) h5 hv h6 hg hw hh
  have key : ∀ l v, v < n → sn v = nI 1 → ¬ gp (ed0 g h) l v s := by
    intro l
    induction l with
    | zero =>
      intro v hv h1 h2
      have h2 : v = s := h2
      rw [h2, r4] at h1
      exact absurd h1 (by decide)
    | succ l ih =>
      rintro v hv h1 ⟨c, h2, h3⟩
      obtain ⟨c1, -, c3⟩ := st v c hv (Or.inr h1) h2
      exact ih c c1 c3 h3
  rintro ⟨l, c, h2, h3⟩
  obtain ⟨c1, -, c3⟩ := st s c hs (Or.inl rfl) h2
  exact key l c c1 c3 h3
theorem RB.next (R : RB n s g h sn opn cnt k 6) : RB n s g h sn opn cnt (k + 1) 0 := by
  obtain ⟨r1, r2, r3, r4, r5, r6⟩ := R
  exact ⟨r1, r2, r3, r4, r5, fun j u ch w a1 a2 a3 a4 a5 a6 a7 a8 => r6 j u ch w a1 (by omega) a3 a4 a5 a6 a7 a8⟩
end RNG
