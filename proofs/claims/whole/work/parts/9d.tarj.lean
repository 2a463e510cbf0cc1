/-! CYCLES: the search's pure part -/
section TAR
variable {g : Nat → Int32} {n a b c d e i j k u v w x len op tm : Nat} {F L T p o : Nat → Nat} {io Nt : Nat → Prop}
def un (f : Nat → Nat) (k v : Nat) : Nat → Nat := fun j => if j = k then v else f j
theorem un_e {f : Nat → Nat} : un f k v k = v := by simp [un]
theorem un_n {f : Nat → Nat} (h : j ≠ k) : un f k v j = f j := by simp [un, h]
def rch (g : Nat → Int32) (a b : Nat) : Prop := ∃ k, pth g k a b
theorem pth_tr : ∀ {k l : Nat} {a b c : Nat}, pth g k a b → pth g l b c → pth g (k + l) a c
  | 0, l, a, b, c, h, h' => by
    have h : a = b := h
    subst h
    rw [Nat.zero_add]; exact h'
  | k + 1, l, a, b, c, ⟨x, h1, h2⟩, h' => by
    rw [show k + 1 + l = (k + l) + 1 by omega]
    exact ⟨x, h1, pth_tr h2 h'⟩
theorem rch_rf : rch g a a := ⟨0, rfl⟩
theorem rch_tr (h : rch g a b) (h' : rch g b c) : rch g a c := by
  obtain ⟨k, h⟩ := h
  obtain ⟨l, h'⟩ := h'
  exact ⟨k + l, pth_tr h h'⟩
theorem rch_e (h : edg g a b) : rch g a b := ⟨1, b, h, rfl⟩
def cycG (g : Nat → Int32) (i : Nat) : Prop := ∃ k, pth g (k + 1) i i
theorem cyc_of (h : rch g a b) (h' : rch g b a) (hne : a ≠ b) : cycG g a := by
  obtain ⟨k, h⟩ := h
  obtain ⟨l, h'⟩ := h'
  cases k with
  | zero => exact absurd h hne
  | succ k =>
    refine ⟨k + l, ?_⟩
    have := pth_tr h h'
    rwa [show k + 1 + l = k + l + 1 by omega] at this
/-- the stretch of the path to which an open state belongs -/
def sgm (F p : Nat → Nat) (len a w : Nat) : Prop := a < len ∧ F (p a) ≤ F w ∧ ∀ b, a < b → b < len → F w < F (p b)
def onP (p : Nat → Nat) (len v : Nat) : Prop := ∃ a, a < len ∧ p a = v
/-- what holds while the search goes on -/
def TJ (g : Nat → Int32) (n : Nat) (F L T p o : Nat → Nat) (io Nt : Nat → Prop) (len op tm : Nat) : Prop :=
  (∀ a, a < len → p a < n ∧ io (p a)) ∧ (∀ a b, a < b → b < len → F (p a) < F (p b)) ∧ (∀ a, a + 1 < len → edg g (p a) (p (a + 1))) ∧
  (∀ a, a < op → o a < n ∧ io (o a)) ∧ (∀ a b, a < b → b < op → F (o a) < F (o b)) ∧ (∀ w, io w → ∃ a, a < op ∧ o a = w) ∧
  (∀ w, io w → w < n ∧ 0 < F w) ∧ (∀ v w, 0 < F v → F v = F w → v = w) ∧ (∀ v, F v ≤ tm) ∧
  (∀ v, v < n → 0 < F v → ¬ onP p len v → T v = 6) ∧ (∀ v, T v ≤ 6) ∧
  (∀ v e u, v < n → 0 < F v → e < T v → g (v * 6 + e) = nI u → u < n → 0 < F u) ∧
  (∀ v u, v < n → 0 < F v → ¬ io v → u < n → edg g v u → 0 < F u ∧ ¬ io u) ∧
  (∀ a, a < len → L (p a) ≤ F (p a) ∧ ∃ u, io u ∧ F u = L (p a) ∧ rch g (p a) u) ∧
  (∀ a w e u, sgm F p len a w → io w → e < T w → g (w * 6 + e) = nI u → io u → L (p a) ≤ F u) ∧
  (∀ a w, sgm F p len a w → io w → rch g w (p a) ∧ rch g (p a) w) ∧
  (0 < F 0 ∧ (0 < len → p 0 = 0 ∧ F 0 = 1)) ∧
  ((∀ w, Nt w → w < n ∧ cycG g w) ∧ (∀ w, w < n → 0 < F w → ¬ io w → cycG g w → Nt w) ∧ ∀ v e, v < n → 0 < F v → e < T v → g (v * 6 + e) = nI v → Nt v) ∧
  (∀ v, F v = 0 → T v = 0)
theorem sgm_ex (J : TJ g n F L T p o io Nt len op tm) (hl : 0 < len) (hw : io w) : ∃ a, sgm F p len a w := by
  obtain ⟨-, -, -, -, -, -, t7, -, -, -, -, -, -, -, -, -, ⟨-, t17⟩, -, -⟩ := J
  obtain ⟨q0, q1⟩ := t17 hl
  have key : ∀ k, k < len → (∃ a, sgm F p len a w) ∨ (∀ b, len - 1 - k ≤ b → b < len → F w < F (p b)) := by
    intro k
    induction k with
    | zero =>
      intro _
      by_cases h : F (p (len - 1)) ≤ F w
      · exact Or.inl ⟨len - 1, by omega, h, fun b h1 h2 => by omega⟩
      · refine Or.inr fun b h1 h2 => ?_
        rw [show b = len - 1 by omega]
        omega
    | succ k ih =>
      intro hk
      rcases ih (by omega) with h | h
      · exact Or.inl h
      · by_cases h3 : F (p (len - 1 - (k + 1))) ≤ F w
        · exact Or.inl ⟨len - 1 - (k + 1), by omega, h3, fun b h1 h2 => h b (by omega) h2⟩
        · refine Or.inr fun b h1 h2 => ?_
          by_cases e : b = len - 1 - (k + 1)
          · rw [e]; omega
          · exact h b (by omega) h2
  rcases key (len - 1) (by omega) with h | h
  · exact h
  · have := h 0 (by omega) hl
    have := (t7 w hw).2
    rw [q0, q1] at *
    omega
theorem sgm_top (J : TJ g n F L T p o io Nt len op tm) (hl : 0 < len) (h : sgm F p len a (p (len - 1))) : a = len - 1 := by
  obtain ⟨h1, h2, h3⟩ := h
  by_cases e : a = len - 1
  · exact e
  · have := h3 (len - 1) (by omega) (by omega)
    omega
theorem TJ.tick {l : Nat} {Nt' : Nat → Prop} (J : TJ g n F L T p o io Nt len op tm) (n5 : n ≤ 1500) (hl : 0 < len) (hT : T (p (len - 1)) < 6) (h1 : l ≤ L (p (len - 1))) (h2 : l = L (p (len - 1)) ∨ ∃ w, io w ∧ F w = l ∧ edg g (p (len - 1)) w) (hx : ∀ u, g (p (len - 1) * 6 + T (p (len - 1))) = nI u → u < n → 0 < F u ∧ (io u → l ≤ F u)) (N1 : ∀ w, Nt w → Nt' w) (N2 : ∀ w, Nt' w → Nt w ∨ (w = p (len - 1) ∧ g (p (len - 1) * 6 + T (p (len - 1))) = nI w)) (N3 : g (p (len - 1) * 6 + T (p (len - 1))) = nI (p (len - 1)) → Nt' (p (len - 1))) : TJ g n F (un L (p (len - 1)) l) (un T (p (len - 1)) (T (p (len - 1)) + 1)) p o io Nt' len op tm := by
  have J' := J
  obtain ⟨t1, t2, t3, t4, t5, t6, t7, t8, t9, t10, t11, t12, t13, t14, t15, t16, t17, ⟨t18, t19, t20⟩, t21⟩ := J
  have hv := t1 (len - 1) (by omega)
  have hF := (t7 _ hv.2).2
  have pin : ∀ a, a < len → p a = p (len - 1) → a = len - 1 := fun a ha e => by
    by_cases q : a = len - 1
    · exact q
    · have := t2 a (len - 1) (by omega) (by omega)
      rw [e] at this
      omega
  refine ⟨t1, t2, t3, t4, t5, t6, t7, t8, t9, fun w a1 a2 a3 => ?_, fun w => ?_, fun w e u a1 a2 a3 a4 a5 => ?_, t13, fun a ha => ?_, fun a w e u a1 a2 a3 a4 a5 => ?_, t16, t17, ⟨fun w hw => ?_, fun w a1 a2 a3 a4 => N1 w (t19 w a1 a2 a3 a4), fun w e a1 a2 a3 a4 => ?_⟩, fun w hw => ?_⟩
  · have : w ≠ p (len - 1) := fun q => a3 ⟨len - 1, by omega, q.symm⟩
    rw [un_n this]; exact t10 w a1 a2 a3
  · by_cases q : w = p (len - 1)
    · rw [q, un_e]; omega
    · rw [un_n q]; exact t11 w
  · by_cases q : w = p (len - 1)
    · subst q
      rw [un_e] at a3
      by_cases q2 : e = T (p (len - 1))
      · rw [q2] at a4; exact (hx u a4 a5).1
      · exact t12 _ e u a1 a2 (by omega) a4 a5
    · rw [un_n q] at a3; exact t12 w e u a1 a2 a3 a4 a5
  · by_cases q : p a = p (len - 1)
    · rw [q, un_e]
      refine ⟨?_, ?_⟩
      · have := (t14 _ (show len - 1 < len by omega)).1
        omega
      · rcases h2 with h2 | ⟨w, w1, w2, w3⟩
        · rw [h2]; exact (t14 _ (show len - 1 < len by omega)).2
        · exact ⟨w, w1, w2, rch_e w3⟩
    · rw [un_n q]; exact t14 a ha
  · have ll : un L (p (len - 1)) l (p a) ≤ L (p a) := by
      by_cases q : p a = p (len - 1)
      · rw [q, un_e]; exact h1
      · rw [un_n q]; exact Nat.le_refl _
    by_cases q : w = p (len - 1)
    · subst q
      rw [un_e] at a3
      by_cases q2 : e = T (p (len - 1))
      · rw [q2] at a4
        have := (hx u a4 (t7 u a5).1).2 a5
        rw [sgm_top J' hl a1, un_e]
        exact this
      · exact Nat.le_trans ll (t15 a _ e u a1 a2 (by omega) a4 a5)
    · rw [un_n q] at a3
      exact Nat.le_trans ll (t15 a w e u a1 a2 a3 a4 a5)
  · rcases N2 w hw with h | ⟨rfl, h⟩
    · exact t18 w h
    · exact ⟨hv.1, 0, _, ⟨by have := hv.1; omega, T (p (len - 1)), hT, h⟩, rfl⟩
  · by_cases q : w = p (len - 1)
    · subst q
      rw [un_e] at a3
      by_cases q2 : e = T (p (len - 1))
      · rw [q2] at a4; exact N3 a4
      · exact N1 _ (t20 _ e a1 a2 (by omega) a4)
    · rw [un_n q] at a3; exact N1 _ (t20 w e a1 a2 a3 a4)
  · by_cases q : w = p (len - 1)
    · rw [q] at hw; omega
    · rw [un_n q]; exact t21 w hw
theorem TJ.disc (J : TJ g n F L T p o io Nt len op tm) (n5 : n ≤ 1500) (hl : 0 < len) (hT : T (p (len - 1)) < 6) (hw : w < n) (h0 : F w = 0) (hx : g (p (len - 1) * 6 + T (p (len - 1))) = nI w) : TJ g n (un F w (tm + 1)) (un L w (tm + 1)) (un T (p (len - 1)) (T (p (len - 1)) + 1)) (un p len w) (un o op w) (fun x => x = w ∨ io x) Nt (len + 1) (op + 1) (tm + 1) := by
  have J' := J
  obtain ⟨t1, t2, t3, t4, t5, t6, t7, t8, t9, t10, t11, t12, t13, t14, t15, t16, t17, ⟨t18, t19, t20⟩, t21⟩ := J
  have hv := t1 (len - 1) (by omega)
  have hF := (t7 _ hv.2).2
  have nw : ∀ v, 0 < F v → v ≠ w := fun v hv q => by rw [q] at hv; omega
  have niw : ¬ io w := fun q => by have := (t7 w q).2; omega
  have pw : ∀ a, a < len → p a ≠ w := fun a ha => nw _ (t7 _ (t1 a ha).2).2
  have Fp : ∀ a, a < len → un F w (tm + 1) (un p len w a) = F (p a) := fun a ha => by rw [un_n (show a ≠ len by omega), un_n (pw a ha)]
  have Fi : ∀ u, io u → un F w (tm + 1) u = F u := fun u hu => un_n (nw u (t7 u hu).2)
  -- segments
  have sg : ∀ a x, io x → sgm (un F w (tm + 1)) (un p len w) (len + 1) a x → sgm F p len a x := by
    rintro a x hx ⟨s1, s2, s3⟩
    have xt := t9 x
    have ha : a < len := by
      by_cases q : a = len
      · rw [q, un_e, un_e, Fi x hx] at s2; omega
      · omega
    refine ⟨ha, ?_, fun b h1 h2 => ?_⟩
    · rw [Fp a ha, Fi x hx] at s2; exact s2
    · have := s3 b h1 (by omega)
      rw [Fp b h2, Fi x hx] at this
      exact this
  have sgw : ∀ a, sgm (un F w (tm + 1)) (un p len w) (len + 1) a w → a = len := by
    rintro a ⟨s1, s2, s3⟩
    by_cases q : a = len
    · exact q
    · have := s3 len (by omega) (by omega)
      simp only [un_e] at this
      omega
  have Tw : un T (p (len - 1)) (T (p (len - 1)) + 1) w = 0 := by rw [un_n (nw _ hF).symm]; exact t21 w h0
  refine ⟨fun a ha => ?_, fun a b hab hb => ?_, fun a ha => ?_, fun a ha => ?_, fun a b hab hb => ?_, fun x hx => ?_, fun x hx => ?_, fun x y hx hxy => ?_, fun x => ?_, fun x a1 a2 a3 => ?_, fun x => ?_, fun x e u a1 a2 a3 a4 a5 => ?_, fun x u a1 a2 a3 a4 a5 => ?_, fun a ha => ?_, fun a x e u a1 a2 a3 a4 a5 => ?_, fun a x a1 a2 => ?_, ⟨?_, fun _ => ⟨?_, ?_⟩⟩, ⟨t18, fun x a1 a2 a3 a4 => ?_, fun x e a1 a2 a3 a4 => ?_⟩, fun x hx => ?_⟩
  · by_cases q : a = len
    · rw [q, un_e]; exact ⟨hw, Or.inl rfl⟩
    · rw [un_n q]
      have := t1 a (by omega)
      exact ⟨this.1, Or.inr this.2⟩
  · rw [Fp a (by omega)]
    by_cases q : b = len
    · rw [q, un_e, un_e]
      have := t9 (p a)
      omega
    · rw [Fp b (by omega)]; exact t2 a b hab (by omega)
  · by_cases q : a + 1 = len
    · rw [q, un_e, un_n (by omega), show a = len - 1 by omega]
      exact ⟨by omega, _, hT, hx⟩
    · rw [un_n (by omega), un_n (by omega)]; exact t3 a (by omega)
  · by_cases q : a = op
    · rw [q, un_e]; exact ⟨hw, Or.inl rfl⟩
    · rw [un_n q]
      have := t4 a (by omega)
      exact ⟨this.1, Or.inr this.2⟩
  · rw [un_n (show a ≠ op by omega), Fi _ (t4 a (by omega)).2]
    by_cases q : b = op
    · rw [q, un_e, un_e]
      have := t9 (o a)
      omega
    · rw [un_n q, Fi _ (t4 b (by omega)).2]; exact t5 a b hab (by omega)
  · rcases hx with rfl | hx
    · exact ⟨op, by omega, un_e⟩
    · obtain ⟨a, ha, e⟩ := t6 x hx
      exact ⟨a, by omega, by rw [un_n (by omega)]; exact e⟩
  · rcases hx with rfl | hx
    · exact ⟨hw, by rw [un_e]; omega⟩
    · rw [Fi x hx]; exact t7 x hx
  · by_cases q1 : x = w
    · by_cases q2 : y = w
      · rw [q1, q2]
      · rw [q1, un_e, un_n q2] at hxy
        have := t9 y
        omega
    · rw [un_n q1] at hx hxy
      by_cases q2 : y = w
      · rw [q2, un_e] at hxy
        have := t9 x
        omega
      · rw [un_n q2] at hxy; exact t8 x y hx hxy
  · by_cases q : x = w
    · rw [q, un_e]; exact Nat.le_refl _
    · rw [un_n q]; have := t9 x; omega
  · have h1 : x ≠ w := fun q => a3 ⟨len, by omega, by rw [un_e, q]⟩
    have h2 : x ≠ p (len - 1) := fun q => a3 ⟨len - 1, by omega, by rw [un_n (by omega), q]⟩
    rw [un_n h1] at a2
    rw [un_n h2]
    refine t10 x a1 a2 fun ⟨a, h3, h4⟩ => a3 ⟨a, by omega, by rw [un_n (by omega)]; exact h4⟩
  · by_cases q : x = p (len - 1)
    · rw [q, un_e]; omega
    · rw [un_n q]; exact t11 x
  · by_cases qu : u = w
    · rw [qu, un_e]; omega
    · rw [un_n qu]
      by_cases q : x = p (len - 1)
      · rw [q, un_e] at a3
        by_cases q2 : e = T (p (len - 1))
        · rw [q, q2, hx] at a4
          exact absurd ((n_eq (by omega) (by omega)).mp a4).symm qu
        · rw [q] at a4
          exact t12 _ e u hv.1 hF (by omega) a4 a5
      · rw [un_n q] at a3
        by_cases q3 : x = w
        · rw [q3, t21 w h0] at a3; omega
        · rw [un_n q3] at a2
          exact t12 x e u a1 a2 a3 a4 a5
  · have q3 : x ≠ w := fun q => a3 (Or.inl q)
    rw [un_n q3] at a2
    have := t13 x u a1 a2 (fun q => a3 (Or.inr q)) a4 a5
    have q4 : u ≠ w := nw u this.1
    exact ⟨by rw [un_n q4]; exact this.1, fun q => q.elim q4 this.2⟩
  · by_cases q : a = len
    · subst q
      rw [un_e, un_e, un_e]
      exact ⟨Nat.le_refl _, w, Or.inl rfl, un_e, rch_rf⟩
    · have ha : a < len := by omega
      rw [Fp a ha, un_n q, un_n (pw a ha)]
      obtain ⟨h1, u, h2, h3, h4⟩ := t14 a ha
      exact ⟨h1, u, Or.inr h2, by rw [Fi u h2]; exact h3, h4⟩
  · have hxw : x ≠ w := fun q => by rw [q, Tw] at a3; omega
    have hxi : io x := a2.resolve_left hxw
    have s := sg a x hxi a1
    have ha := s.1
    rw [un_n (show a ≠ len by omega), un_n (pw a ha)]
    by_cases qu : u = w
    · rw [qu, un_e]
      have := (t14 a ha).1
      have := t9 (p a)
      omega
    · have hui : io u := a5.resolve_left qu
      rw [un_n qu]
      by_cases q : x = p (len - 1)
      · subst q
        rw [un_e] at a3
        by_cases q2 : e = T (p (len - 1))
        · rw [q2, hx] at a4
          exact absurd ((n_eq (by omega) (by have := (t7 u hui).1; omega)).mp a4).symm qu
        · exact t15 a _ e u s hxi (by omega) a4 hui
      · rw [un_n q] at a3
        exact t15 a x e u s hxi a3 a4 hui
  · by_cases qx : x = w
    · subst qx
      rw [sgw a a1, un_e]
      exact ⟨rch_rf, rch_rf⟩
    · have hxi : io x := a2.resolve_left qx
      have s := sg a x hxi a1
      rw [un_n (show a ≠ len by have := s.1; omega)]
      exact t16 a x s hxi
  · rw [un_n (nw 0 t17.1).symm.symm]; exact t17.1
  · rw [un_n (by omega)]; exact (t17.2 hl).1
  · rw [un_n (nw 0 t17.1)]; exact (t17.2 hl).2
  · have q3 : x ≠ w := fun q => a3 (Or.inl q)
    rw [un_n q3] at a2
    exact t19 x a1 a2 (fun q => a3 (Or.inr q)) a4
  · by_cases q3 : x = w
    · rw [q3, Tw] at a3; omega
    · rw [un_n q3] at a2
      by_cases q : x = p (len - 1)
      · subst q
        rw [un_e] at a3
        by_cases q2 : e = T (p (len - 1))
        · rw [q2, hx] at a4
          exact absurd ((n_eq (by omega) (by omega)).mp a4).symm q3
        · exact t20 _ e a1 a2 (by omega) a4
      · rw [un_n q] at a3; exact t20 x e a1 a2 a3 a4
  · have q3 : x ≠ w := fun q => by rw [q, un_e] at hx; omega
    rw [un_n q3] at hx
    have q : x ≠ p (len - 1) := fun q => by rw [q] at hx; omega
    rw [un_n q]; exact t21 x hx
end TAR
