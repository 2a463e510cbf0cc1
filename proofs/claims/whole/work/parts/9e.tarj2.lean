/-! CYCLES: a state is left -/
section TA2
variable {g : Nat → Int32} {n a b c d e i j k u v w x q len op tm : Nat} {F L L' T p o : Nat → Nat} {io Nt : Nat → Prop}
theorem TJ.rpa (J : TJ g n F L T p o io Nt len op tm) : ∀ d a, a + d < len → rch g (p a) (p (a + d))
  | 0, a, _ => rch_rf
  | d + 1, a, h => rch_tr (J.rpa d a (by omega)) (rch_e (by
      obtain ⟨-, -, t3, -⟩ := J
      exact t3 (a + d) (by omega)))
theorem TJ.len2 (J : TJ g n F L T p o io Nt len op tm) (hl : 0 < len) (hL : L (p (len - 1)) < F (p (len - 1))) : 2 ≤ len := by
  obtain ⟨t1, t2, t3, t4, t5, t6, t7, t8, t9, t10, t11, t12, t13, t14, t15, t16, t17, -, -⟩ := J
  by_cases h : len = 1
  · subst h
    obtain ⟨h1, u, h2, h3, -⟩ := t14 0 (by omega)
    obtain ⟨q0, q1⟩ := t17.2 (by omega)
    have := (t7 u h2).2
    rw [show (1 : Nat) - 1 = 0 from rfl, q0, q1] at hL
    rw [q0] at h3
    omega
  · omega
theorem TJ.pop (J : TJ g n F L T p o io Nt len op tm) (hl : 0 < len) (hT : T (p (len - 1)) = 6) (hL : L (p (len - 1)) < F (p (len - 1))) : TJ g n F (un L (p (len - 2)) (min (L (p (len - 2))) (L (p (len - 1))))) T p o io Nt (len - 1) op tm := by
  have l2 := J.len2 hl hL
  have J' := J
  obtain ⟨t1, t2, t3, t4, t5, t6, t7, t8, t9, t10, t11, t12, t13, t14, t15, t16, t17, t18, t21⟩ := J
  have ed : edg g (p (len - 2)) (p (len - 1)) := by
    have := t3 (len - 2) (by omega)
    rwa [show len - 2 + 1 = len - 1 by omega] at this
  have pin : ∀ a, a < len - 1 → a ≠ len - 2 → p a ≠ p (len - 2) := fun a ha h e => by
    have := t2 a (len - 2) (by omega) (by omega)
    rw [e] at this
    omega
  -- segments
  have sg : ∀ a w, sgm F p (len - 1) a w → (a < len - 2 ∧ sgm F p len a w) ∨ (a = len - 2 ∧ (sgm F p len (len - 2) w ∨ sgm F p len (len - 1) w)) := by
    rintro a w ⟨s1, s2, s3⟩
    by_cases h : a = len - 2
    · subst h
      refine Or.inr ⟨rfl, ?_⟩
      by_cases hw : F (p (len - 1)) ≤ F w
      · exact Or.inr ⟨by omega, hw, fun b h1 h2 => by omega⟩
      · refine Or.inl ⟨by omega, s2, fun b h1 h2 => ?_⟩
        rw [show b = len - 1 by omega]
        omega
    · refine Or.inl ⟨by omega, by omega, s2, fun b h1 h2 => ?_⟩
      by_cases hb : b = len - 1
      · have h3 := s3 (len - 2) (by omega) (by omega)
        have h4 := t2 (len - 2) (len - 1) (by omega) (by omega)
        rw [hb]; omega
      · exact s3 b h1 (by omega)
  -- the top comes back
  have tb : rch g (p (len - 1)) (p (len - 2)) := by
    obtain ⟨-, u, h2, h3, h4⟩ := t14 (len - 1) (by omega)
    obtain ⟨a, ha⟩ := sgm_ex J' hl h2
    have hne : a ≠ len - 1 := fun e => by
      have := ha.2.1
      rw [e] at this
      omega
    have := ha.1
    have r := J'.rpa (len - 2 - a) a (by omega)
    rw [show a + (len - 2 - a) = len - 2 by omega] at r
    exact rch_tr h4 (rch_tr (t16 a u ha h2).1 r)
  have lm1 : min (L (p (len - 2))) (L (p (len - 1))) ≤ L (p (len - 2)) := Nat.min_le_left _ _
  have lm2 : min (L (p (len - 2))) (L (p (len - 1))) ≤ L (p (len - 1)) := Nat.min_le_right _ _
  refine ⟨fun a ha => t1 a (by omega), fun a b h1 h2 => t2 a b h1 (by omega), fun a ha => t3 a (by omega), t4, t5, t6, t7, t8, t9, fun w a1 a2 a3 => ?_, t11, t12, t13, fun a ha => ?_, fun a w e u a1 a2 a3 a4 a5 => ?_, fun a w a1 a2 => ?_, ⟨t17.1, fun _ => t17.2 hl⟩, t18, t21⟩
  · by_cases h : w = p (len - 1)
    · rw [h]; exact hT
    · refine t10 w a1 a2 fun ⟨a, h3, h4⟩ => ?_
      by_cases h5 : a = len - 1
      · exact h (by rw [← h4, h5])
      · exact a3 ⟨a, by omega, h4⟩
  · by_cases h : a = len - 2
    · subst h
      rw [un_e]
      obtain ⟨h1, u, h2, h3, h4⟩ := t14 (len - 2) (by omega)
      obtain ⟨g1, u', g2, g3, g4⟩ := t14 (len - 1) (by omega)
      refine ⟨by omega, ?_⟩
      by_cases hm : L (p (len - 2)) ≤ L (p (len - 1))
      · rw [Nat.min_eq_left hm]; exact ⟨u, h2, h3, h4⟩
      · rw [Nat.min_eq_right (by omega)]; exact ⟨u', g2, g3, rch_tr (rch_e ed) g4⟩
    · rw [un_n (pin a ha h)]; exact t14 a (by omega)
  · rcases sg a w a1 with ⟨h1, h2⟩ | ⟨h1, h2 | h2⟩
    · rw [un_n (pin a (by omega) (by omega))]; exact t15 a w e u h2 a2 a3 a4 a5
    · rw [h1, un_e]; exact Nat.le_trans lm1 (t15 _ w e u h2 a2 a3 a4 a5)
    · rw [h1, un_e]; exact Nat.le_trans lm2 (t15 _ w e u h2 a2 a3 a4 a5)
  · rcases sg a w a1 with ⟨h1, h2⟩ | ⟨h1, h2 | h2⟩
    · exact t16 a w h2 a2
    · rw [h1]; exact t16 _ w h2 a2
    · rw [h1]
      have := t16 _ w h2 a2
      exact ⟨rch_tr this.1 tb, rch_tr (rch_e ed) this.2⟩
/-- the component of the top is closed -/
theorem TJ.close (J : TJ g n F L T p o io Nt len op tm) (hg : ∀ a b, a < n → edg g a b → b < n) (hl : 0 < len) (hT : T (p (len - 1)) = 6) (hL : L (p (len - 1)) = F (p (len - 1))) (hL' : ∀ a, a < len - 1 → L' (p a) = L (p a)) (hq : q < op) (ho : o q = p (len - 1)) : TJ g n F L' T p o (fun x => io x ∧ F x < F (p (len - 1))) (fun x => Nt x ∨ (q ≠ op - 1 ∧ io x ∧ F (p (len - 1)) ≤ F x)) (len - 1) q tm := by
  have J' := J
  obtain ⟨t1, t2, t3, t4, t5, t6, t7, t8, t9, t10, t11, t12, t13, t14, t15, t16, t17, ⟨t18, t19, t20⟩, t21⟩ := J
  have hv := t1 (len - 1) (by omega)
  have hF := (t7 _ hv.2).2
  have Fp : ∀ a, a < len - 1 → F (p a) < F (p (len - 1)) := fun a ha => t2 a (len - 1) ha (by omega)
  have mo : ∀ a b, a < op → b < op → F (o a) < F (o b) → a < b := fun a b ha hb h => by
    rcases (show a < b ∨ a = b ∨ b < a by omega) with h1 | h1 | h1
    · exact h1
    · rw [h1] at h; omega
    · have := t5 b a h1 ha; omega
  have kT : ∀ x, io x → F (p (len - 1)) ≤ F x → T x = 6 := fun x hx hfx => by
    by_cases e : x = p (len - 1)
    · rw [e]; exact hT
    · refine t10 x (t7 x hx).1 (t7 x hx).2 fun ⟨a, ha, ea⟩ => ?_
      by_cases e2 : a = len - 1
      · exact e (by rw [← ea, e2])
      · have := Fp a (by omega)
        rw [ea] at this
        omega
  have ksg : ∀ x, F (p (len - 1)) ≤ F x → sgm F p len (len - 1) x := fun x hx => ⟨by omega, hx, fun b h1 h2 => by omega⟩
  have kE : ∀ x u, io x → F (p (len - 1)) ≤ F x → edg g x u → u < n → 0 < F u ∧ (io u → F (p (len - 1)) ≤ F u) := fun x u hx hfx ⟨_, ch, h6, he⟩ hu => by
    have h6' : ch < T x := by rw [kT x hx hfx]; exact h6
    refine ⟨t12 x ch u (t7 x hx).1 (t7 x hx).2 h6' he hu, fun hiu => ?_⟩
    have := t15 _ x ch u (ksg x hfx) hx h6' he hiu
    omega
  have sg : ∀ a w, F w < F (p (len - 1)) → sgm F p (len - 1) a w → sgm F p len a w := by
    rintro a w hw ⟨s1, s2, s3⟩
    refine ⟨by omega, s2, fun b h1 h2 => ?_⟩
    by_cases e : b = len - 1
    · rw [e]; exact hw
    · exact s3 b h1 (by omega)
  have cl : ∀ k u, u < n → 0 < F u → ¬ io u → ∀ z, pth g k u z → ¬ io z := by
    intro k
    induction k with
    | zero =>
      intro u _ _ h z hz
      have hz : u = z := hz
      rw [← hz]; exact h
    | succ k ih =>
      rintro u h1 h2 h3 z ⟨y, hy, hz⟩
      have hyn := hg u y h1 hy
      obtain ⟨h4, h5⟩ := t13 u y h1 h2 h3 hyn hy
      exact ih y hyn h4 h5 z hz
  refine ⟨fun a ha => ⟨(t1 a (by omega)).1, (t1 a (by omega)).2, Fp a ha⟩, fun a b h1 h2 => t2 a b h1 (by omega), fun a ha => t3 a (by omega), fun a ha => ⟨(t4 a (by omega)).1, (t4 a (by omega)).2, ?_⟩, fun a b h1 h2 => t5 a b h1 (by omega), fun w hw => ?_, fun w hw => t7 w hw.1, t8, t9, fun w a1 a2 a3 => ?_, t11, t12, fun x u a1 a2 a3 a4 a5 => ?_, fun a ha => ?_, fun a w e u a1 a2 a3 a4 a5 => ?_, fun a w a1 a2 => t16 a w (sg a w a2.2 a1) a2.1, ⟨t17.1, fun _ => t17.2 hl⟩, ⟨fun x hx => ?_, fun x a1 a2 a3 a4 => ?_, fun x e a1 a2 a3 a4 => Or.inl (t20 x e a1 a2 a3 a4)⟩, t21⟩
  · have := t5 a q ha hq
    rw [ho] at this
    exact this
  · obtain ⟨a, ha, e⟩ := t6 w hw.1
    refine ⟨a, mo a q ha hq ?_, e⟩
    rw [e, ho]; exact hw.2
  · by_cases h : w = p (len - 1)
    · rw [h]; exact hT
    · refine t10 w a1 a2 fun ⟨a, h3, h4⟩ => ?_
      by_cases h5 : a = len - 1
      · exact h (by rw [← h4, h5])
      · exact a3 ⟨a, by omega, h4⟩
  · by_cases hx : io x
    · have hfx : F (p (len - 1)) ≤ F x := by
        by_cases h : F (p (len - 1)) ≤ F x
        · exact h
        · exact absurd ⟨hx, by omega⟩ a3
      obtain ⟨h1, h2⟩ := kE x u hx hfx a5 a4
      exact ⟨h1, fun h3 => by have := h2 h3.1; omega⟩
    · obtain ⟨h1, h2⟩ := t13 x u a1 a2 hx a4 a5
      exact ⟨h1, fun h3 => h2 h3.1⟩
  · obtain ⟨h1, u, h2, h3, h4⟩ := t14 a (by omega)
    rw [hL' a ha]
    have := Fp a ha
    exact ⟨h1, u, ⟨h2, by omega⟩, h3, h4⟩
  · have h := a1.1
    rw [hL' a h]
    exact t15 a w e u (sg a w a2.2 a1) a2.1 a3 a4 a5.1
  · rcases hx with hx | ⟨h1, h2, h3⟩
    · exact t18 x hx
    · refine ⟨(t7 x h2).1, ?_⟩
      have r1 := t16 _ x (ksg x h3) h2
      by_cases e : x = p (len - 1)
      · have h4 := t4 (op - 1) (by omega)
        have h5 := t5 q (op - 1) (by omega) (by omega)
        rw [ho] at h5
        have r2 := t16 _ (o (op - 1)) (ksg _ (by omega)) h4.2
        rw [e]
        exact cyc_of r2.2 r2.1 (fun z => by rw [← z] at h5; omega)
      · exact cyc_of r1.1 r1.2 e
  · by_cases hx : io x
    · have hfx : F (p (len - 1)) ≤ F x := by
        by_cases h : F (p (len - 1)) ≤ F x
        · exact h
        · exact absurd ⟨hx, by omega⟩ a3
      by_cases hal : q = op - 1
      · have hxv : x = p (len - 1) := by
          obtain ⟨a, ha, e⟩ := t6 x hx
          have : a = q := by
            rcases (show a < q ∨ a = q ∨ q < a by omega) with h1 | h1 | h1
            · have := t5 a q h1 hq
              rw [e, ho] at this
              omega
            · exact h1
            · omega
          rw [← e, this, ho]
        subst hxv
        obtain ⟨k, y, hy, hz⟩ := a4
        have hyn := hg _ y a1 hy
        obtain ⟨h1, h2⟩ := kE _ y hx hfx hy hyn
        by_cases ey : y = p (len - 1)
        · obtain ⟨-, ch, h6, he⟩ := hy
          rw [ey] at he
          exact Or.inl (t20 _ ch a1 a2 (by rw [hT]; exact h6) he)
        · have hny : ¬ io y := fun hiy => by
            obtain ⟨a, ha, e⟩ := t6 y hiy
            have h7 := h2 hiy
            have : a = q := by
              rcases (show a < q ∨ a = q ∨ q < a by omega) with h1 | h1 | h1
              · have := t5 a q h1 hq
                rw [e, ho] at this
                omega
              · exact h1
              · omega
            rw [this, ho] at e
            exact ey e.symm
          exact absurd hx (cl k y hyn h1 hny _ hz)
      · exact Or.inr ⟨hal, hx, hfx⟩
    · exact Or.inl (t19 x a1 a2 hx a4)
end TA2
