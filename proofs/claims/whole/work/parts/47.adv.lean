/-! A STEP OF A THREAD, on both sides -/
def F_adv (b : Nat) : zT := (zif (zand (zcm0 (fun a => zge a 0) (zl 6)) (zcm0 (fun a => zne a 0) (zcall (M_X5_waitsForWrites) (zai (zald (b + 1 + 1) 900 (zl 6)) zan)))) (zex (zcall (M_X5_letComeUntil b) (zai (zl 2) (zai (zk (nI 0)) zan)))) zsk)
def T_adv (b : Nat) : zT := (zsq (zse 6 (zcall (M_X6_find (b + 1)) (zai (zl 4) (zai (zald (b + 8) 118 (zbin ziadd (zl 2) (zk (nI 9)))) zan)))) (zsq (F_adv b) (zsq (zse 7 (zcond (zcm0 (fun a => zlt a 0) (zl 6)) (zk (nI 3)) (zcall (M_X5_memoryError b) (zai (zl 2) (zai (zl 6) zan))))) (zsq (zas (b + 8) 118 (zbin ziadd (zl 2) (zk (nI 12))) (zl 7)) (zsq (zif (zcm0 (fun a => zne a 0) (zl 7)) zrv zsk) (zsq (zao (b + 8) 118 (zbin ziadd (zl 2) (zk (nI 9))) ziadd (zk (nI 1))) (zsq (zif (zand (zcm0 (fun a => zne a 0) (zfd b 2)) (zcm0 (fun a => zne a 0) (zcall (M_X5_appends) (zai (zald (b + 1 + 1) 900 (zl 6)) zan)))) (zex (zcall (M_X5_letComeUntil b) (zai (zl 2) (zai (zk (nI 3)) zan)))) zsk) (zsq (zex (zcall (M_X5_perform b) (zai (zl 2) (zai (zl 6) (zai (zl 3) zan))))) (zsq (zex (zcall (M_X5_noteMoment b) (zai (zl 2) (zai (zl 6) (zai (zl 3) zan))))) (zsq (zex (zcall (M_X5_settle b) (zai (zald (b + 1 + 1) 900 (zl 6)) zan))) (zif (zcm0 (fun a => zne a 0) (zald (b + 8) 118 (zbin ziadd (zl 2) (zk (nI 11))))) (zex (zcall (M_X5_ownActs b) (zai (zl 2) (zai (zl 4) (zai (zl 5) zan))))) zsk)))))))))))
theorem adv_T (b : Nat) : B_X5_advance b = (zsq (zse 2 (zcall (M_X4_ofThread) (zai (zl 1) zan))) (zsq (zif (zcmp zge (zald (b + 8) 118 (zbin ziadd (zl 2) (zk (nI 10)))) (zald (b + 1 + 4) 4 (zl 1))) zrv zsk) (zsq (zse 3 (zbin ziadd (zbin zimul (zl 1) (zk (nI 3))) (zald (b + 8) 118 (zbin ziadd (zl 2) (zk (nI 10)))))) (zsq (zse 4 (zald (b + 1 + 5) 13 (zl 3))) (zsq (zse 5 (zk (nI 30))) (zsq (zif (zcm0 (fun a => zeq a 0) (zald (b + 8) 118 (zbin ziadd (zl 2) (zk (nI 11))))) (zsq (zex (zcall (M_X5_beginCall b) (zai (zl 2) (zai (zl 3) zan)))) (zsq (zse 5 (zcall (M_X5_ownActs b) (zai (zl 2) (zai (zl 4) (zai (zl 5) zan))))) (zif (zcm0 (fun a => zne a 0) (zald (b + 8) 118 (zbin ziadd (zl 2) (zk (nI 12))))) zrv zsk))) zsk) (T_adv b))))))) := rfl
def T_stp (b : Nat) : zT := (zsq (zif (zcm0 (fun a => zlt a 0) (zcall (M_X9_opAt b) (zai (zl 1) zan))) (zsq (zex (zcall (M_X9_finds b) (zai (zl 1) (zai (zk (nI 3)) zan)))) zrv) zsk) (zsq (zex (zcall (M_X9_memory b) (zai (zl 1) zan))) (zif (zand (zcm0 (fun a => zeq a 0) (zald (b + 3) 100 (zbin ziadd (zl 2) (zk (nI 3))))) (zcmp zeq (zald (b + 3) 100 (zbin ziadd (zl 2) (zk (nI 1)))) (zk (nI 1)))) (zex (zcall (M_X9_owns b) (zai (zl 1) zan))) zsk)))
theorem stp_T (b : Nat) : B_X9_steps b = (zsq (zse 2 (zcall (M_X9_at) (zai (zl 1) zan))) (zsq (zpz b 4 (zk (nI 0))) (zsq (zpf b 5 (zk (nI 0))) (zsq (zif (zcm0 (fun a => zeq a 0) (zald (b + 3) 100 (zbin ziadd (zl 2) (zk (nI 1))))) (zsq (zex (zcall (M_X9_begins b) (zai (zl 1) zan))) (zsq (zif (zcm0 (fun a => zlt a 0) (zald (b + 2) 960 (zbin ziadd (zk (nI 0)) (zcall (M_X9_routineOf b) (zai (zl 1) zan))))) (zsq (zex (zcall (M_X9_finds b) (zai (zl 1) (zai (zk (nI 1)) zan)))) zrv) zsk) (zsq (zex (zcall (M_X9_owns b) (zai (zl 1) zan))) (zif (zcm0 (fun a => zgt a 0) (zald (b + 3) 100 (zbin ziadd (zl 2) (zk (nI 3))))) zrv zsk)))) zsk) (T_stp b))))) := rfl
section ADV
variable {z : Bool} {ok : Nat → Prop} {N : Nat → Nat} {sg : Bool} {c s sp f : Nat → Int32} {t bc τ o r pl op h sl dl : Nat} {b m : Nat} {μ ν : zM} {mn x1 x2 x3 : Int32} {Q : Int32 → zM → Prop}
/-- a memory operation, on both sides: an error, done, or the call's end -/
theorem s_mem (hT : Th sg t bc) (R : Rel z ok N sg c s) (hm : μ (b + 1) 6 = mn) (hpm : ν (m + 2) 948 = mn) (hz : z = false ∨ ¬ mn = nI 2) (hz2 : z = true ∨ mn = nI 2) (hf : (f 3 = nI 1 ∧ τ = 3) ∨ (f 3 = nI 0 ∧ τ = t)) (hop : sp (27 + 18 * t) = nI o) (hpp : sp (27 + 18 * t + 2) = nI pl) (ho : s (27 + 18 * t) = nI o) (hp : s (27 + 18 * t + 2) = nI pl) (o4 : o ≤ 4) (hr : ν (m + 2) (916 + 4 * τ + o) = nI r) (r6 : r < 6) (p30 : pl < 30) (hlt : nI pl < ν (m + 2) r) (a0 : μ (b + 1 + 1) ((r * 30 + pl) * 5) = nI op) (m0 : ν (m + 2) (6 + 120 * r + 4 * pl) = nI op) (a1 : μ (b + 1 + 1) ((r * 30 + pl) * 5 + 1) = x1) (m1 : ν (m + 2) (6 + 120 * r + 4 * pl + 1) = x1) (a2 : μ (b + 1 + 1) ((r * 30 + pl) * 5 + 2) = x2) (m2 : ν (m + 2) (6 + 120 * r + 4 * pl + 2) = x2) (a3 : μ (b + 1 + 1) ((r * 30 + pl) * 5 + 3) = x3) (m3 : ν (m + 2) (6 + 120 * r + 4 * pl + 3) = x3) (hh : c (bc + 13) = nI h) (h4 : h ≤ 4) (hd : deadZ sg c) (sl13 : sl < 13) (MO : momH z ok N sg b m μ ν c s f t bc o pl op ((r * 30 + pl) * 5) sl) (hD : μ b 2 = nI dl) (hd2 : dl < 2) (hL : ∀ (s : Nat → Int32) Q, wr (M_X9_isLate m [] (zmm ν m s f)) Q = Q (nI dl) (zmm ν m s f)) (hflu : ∀ (f : Nat → Int32) Q, waitsN op = true → wr (M_X9_flush m [nI t] (zmm ν m sp f)) Q = Q 0 (zmm ν m s f)) (hsp : waitsN op = false → sp = s) (hopr : op < 14 ∨ (20 ≤ op ∧ op < 27)) (v1 : fitsU (usesT.getD (3 * op) 0) x1) (v2 : fitsU (usesT.getD (3 * op + 1) 0) x2) (v3 : fitsU (usesT.getD (3 * op + 2) 0) x3) (hsl : (sg = true ∧ f 3 = nI 1 ∧ 9 ≤ sl) ∨ (sg = false ∧ f 3 = nI 0 ∧ sl = 3 * t + o ∧ o < 3)) (hoN : o < N t) (hoc : c (bc + 10) = nI o) :
    memE b m μ ν c s sp f t bc ((r * 30 + pl) * 5) ∨ (op ≠ 13 ∧ memD z ok N sg b m μ ν c s sp f t bc pl op ((r * 30 + pl) * 5) sl) ∨ (op = 13 ∧ memR z ok N sg b m μ ν c s sp f t bc o op ((r * 30 + pl) * 5) sl) := by
  by_cases hno : op = 7 ∨ (20 ≤ op ∧ op < 27)
  · exact Or.inr (Or.inl ⟨by omega, s_m7 hT R hm hpm hz hz2 hf hop hpp ho hp o4 hr r6 p30 hlt a0 m0 a1 m1 a2 m2 a3 m3 hh h4 hd sl13 MO hflu hsp hno⟩)
  rcases (show op = 0 ∨ op = 1 ∨ op = 2 ∨ op = 3 ∨ op = 4 ∨ op = 5 ∨ op = 6 ∨ op = 8 ∨ op = 9 ∨ op = 10 ∨ op = 11 ∨ op = 12 ∨ op = 13 by omega) with h | h | h | h | h | h | h | h | h | h | h | h | h
  · subst h
    obtain ⟨a, ha, e1⟩ : ∃ k, k < 6 ∧ x1 = nI k := v1
    obtain ⟨a', ha', e2⟩ : ∃ k, k < 8 ∧ x2 = nI k := v2
    exact Or.inr (Or.inl ⟨by omega, s_m0 hT R hm hpm hz hz2 hf hop hpp ho hp o4 hr r6 p30 hlt a0 m0 a1 m1 a2 m2 a3 m3 hh h4 hd sl13 MO (hsp rfl) rfl e1 ha e2 ha'⟩)
  · subst h
    obtain ⟨a, ha, e1⟩ : ∃ k, k < 6 ∧ x1 = nI k := v1
    obtain ⟨a', ha', e2⟩ : ∃ k, k < 6 ∧ x2 = nI k := v2
    obtain ⟨g, hg, e3⟩ : ∃ k, k < 2 ∧ x3 = nI k := v3
    exact (s_m1 hT R hm hpm hz hz2 hf hop hpp ho hp o4 hr r6 p30 hlt a0 m0 a1 m1 a2 m2 a3 m3 hh h4 hd sl13 MO (hsp rfl) rfl e1 ha e2 ha' e3 hg).imp id (fun q => Or.inl ⟨by omega, q⟩)
  · subst h
    obtain ⟨a, ha, e1⟩ : ∃ k, k < 8 ∧ x1 = nI k := v1
    obtain ⟨a', ha', e2⟩ : ∃ k, k < 6 ∧ x2 = nI k := v2
    exact Or.inr (Or.inl ⟨by omega, s_m2 hT R hm hpm hz hz2 hf hop hpp ho hp o4 hr r6 p30 hlt a0 m0 a1 m1 a2 m2 a3 m3 hh h4 hd sl13 MO hD hd2 hL (hsp rfl) rfl e1 ha e2 ha'⟩)
  · subst h
    obtain ⟨a, ha, e1⟩ : ∃ k, k < 6 ∧ x1 = nI k := v1
    obtain ⟨a', ha', e2⟩ : ∃ k, k < 2 ∧ x2 = nI k := v2
    obtain ⟨g, hg, e3⟩ : ∃ k, k < 6 ∧ x3 = nI k := v3
    exact (s_m3 hT R hm hpm hz hz2 hf hop hpp ho hp o4 hr r6 p30 hlt a0 m0 a1 m1 a2 m2 a3 m3 hh h4 hd sl13 MO hD hd2 hL (hsp rfl) rfl e1 ha e2 ha' e3 hg).imp id (fun q => Or.inl ⟨by omega, q⟩)
  · subst h
    obtain ⟨a, ha, e1⟩ : ∃ k, k < 8 ∧ x1 = nI k := v1
    obtain ⟨a', ha', e2⟩ : ∃ k, k < 6 ∧ x2 = nI k := v2
    obtain ⟨g, hg, e3⟩ : ∃ k, k < 6 ∧ x3 = nI k := v3
    exact Or.inr (Or.inl ⟨by omega, s_m4 hT R hm hpm hz hz2 hf hop hpp ho hp o4 hr r6 p30 hlt a0 m0 a1 m1 a2 m2 a3 m3 hh h4 hd sl13 MO (fun f Q => hflu f Q rfl) rfl e1 ha e2 ha' e3 hg⟩)
  · subst h
    obtain ⟨a, ha, e1⟩ : ∃ k, k < 6 ∧ x1 = nI k := v1
    obtain ⟨a', ha', e2⟩ : ∃ k, k < 6 ∧ x2 = nI k := v2
    obtain ⟨g, hg, e3⟩ : ∃ k, k < 6 ∧ x3 = nI k := v3
    exact (s_m5 hT R hm hpm hz hz2 hf hop hpp ho hp o4 hr r6 p30 hlt a0 m0 a1 m1 a2 m2 a3 m3 hh h4 hd sl13 MO (fun f Q => hflu f Q rfl) rfl e1 ha e2 ha' e3 hg).imp id (fun q => Or.inl ⟨by omega, q⟩)
  · subst h
    obtain ⟨a, ha, e1⟩ : ∃ k, k < 8 ∧ x1 = nI k := v1
    exact (s_m6 hT R hm hpm hz hz2 hf hop hpp ho hp o4 hr r6 p30 hlt a0 m0 a1 m1 a2 m2 a3 m3 hh h4 hd sl13 MO (fun f Q => hflu f Q rfl) rfl e1 ha).imp id (fun q => Or.inl ⟨by omega, q⟩)
  · subst h
    obtain ⟨a, ha, e1⟩ : ∃ k, k < 6 ∧ x1 = nI k := v1
    exact Or.inr (Or.inl ⟨by omega, s_m8 hT R hm hpm hz hz2 hf hop hpp ho hp o4 hr r6 p30 hlt a0 m0 a1 m1 a2 m2 a3 m3 hh h4 hd sl13 MO (hsp rfl) rfl e1 ha⟩)
  · subst h
    obtain ⟨a, ha, e1⟩ : ∃ k, k < 6 ∧ x1 = nI k := v1
    exact (s_m9 hT R hm hpm hz hz2 hf hop hpp ho hp o4 hr r6 p30 hlt a0 m0 a1 m1 a2 m2 a3 m3 hh h4 hd sl13 MO (fun f Q => hflu f Q rfl) rfl e1 ha).imp id (fun q => Or.inl ⟨by omega, q⟩)
  · subst h
    obtain ⟨a, ha, e1⟩ : ∃ k, k < 2 ∧ x1 = nI k := v1
    obtain ⟨a', ha', e2⟩ : ∃ k, k < 6 ∧ x2 = nI k := v2
    exact Or.inr (Or.inl ⟨by omega, s_m10 hT R hm hpm hz hz2 hf hop hpp ho hp o4 hr r6 p30 hlt a0 m0 a1 m1 a2 m2 a3 m3 hh h4 hd sl13 MO (hsp rfl) rfl e1 ha e2 ha'⟩)
  · exact Or.inr (Or.inl ⟨by omega, s_m11 hT R hm hpm hz hz2 hf hop hpp ho hp o4 hr r6 p30 hlt a0 m0 a1 m1 a2 m2 a3 m3 hh h4 hd sl13 MO (hsp (by subst h; rfl)) h⟩)
  · exact Or.inr (Or.inl ⟨by omega, s_m12 hT R hm hpm hz hz2 hf hop hpp ho hp o4 hr r6 p30 hlt a0 m0 a1 m1 a2 m2 a3 m3 hh h4 hd sl13 MO (hsp (by subst h; rfl)) h⟩)
  · subst h
    obtain ⟨a, ha, e1⟩ : ∃ k, k < 6 ∧ x1 = nI k := v1
    exact Or.inr (Or.inr ⟨rfl, s_m13 hT R hm hpm hz hz2 hf hop hpp ho hp o4 hr r6 p30 hlt a0 m0 a1 m1 a2 m2 a3 m3 hh h4 hd sl13 MO (fun f Q => hflu f Q rfl) rfl e1 ha hsl hoN hoc⟩)
/-- what a step of a thread rests on -/
def StC (z : Bool) (ok : Nat → Prop) (N : Nat → Nat) (sg : Bool) (b m : Nat) (μ ν : zM) (f : Nat → Int32) (t bc τ o r sl dl : Nat) (mn : Int32) : Prop :=
  Th sg t bc ∧ Ctx b m μ ν ∧ (μ (b + 1) 6 = mn ∧ ν (m + 2) 948 = mn) ∧ ((z = false ∨ ¬ mn = nI 2) ∧ (z = true ∨ mn = nI 2)) ∧ (∀ l : List Nat, l.Nodup → (∀ s ∈ l, s < 9 ∧ ok s) → l.length ≤ 6) ∧
  ((sg = true ∧ f 3 = nI 1 ∧ τ = 3 ∧ sl = 9 + o) ∨ (sg = false ∧ f 3 = nI 0 ∧ τ = t ∧ sl = t * 3 + o ∧ o < 3 ∧ ok sl)) ∧ o ≤ 3 ∧ o < N t ∧ (ν (m + 2) (916 + 4 * τ + o) = nI r ∧ μ (b + 1 + 5) sl = nI r ∧ r < 6) ∧ (μ b 2 = nI dl ∧ dl < 2) ∧ (∀ (s f' : Nat → Int32) Q, f' 3 = f 3 → wr (M_X9_isLate m [] (zmm ν m s f')) Q = Q (nI dl) (zmm ν m s f'))
theorem StC.hf (S : StC z ok N sg b m μ ν f t bc τ o r sl dl mn) : (f 3 = nI 1 ∧ τ = 3) ∨ (f 3 = nI 0 ∧ τ = t) := by
  obtain ⟨-, -, -, -, -, h, -⟩ := S
  rcases h with h | h
  · exact Or.inl ⟨h.2.1, h.2.2.1⟩
  · exact Or.inr ⟨h.2.1, h.2.2.1⟩
/-- how a step ends: o' calls are over then, c' s' the rows -/
def EndS (z : Bool) (ok : Nat → Prop) (N : Nat → Nat) (sg : Bool) (c s f : Nat → Int32) (t bc o sl : Nat) (c' s' f' : Nat → Int32) : Prop :=
  Rel z ok N sg c' s' ∧ (∀ j, j ≠ 4 → j ≠ 5 → f' j = f j) ∧
  ((c' (bc + 10) = nI o ∧ c' (bc + 11) = nI 1 ∧ f' 4 = f 4) ∨ (c' (bc + 10) = nI (o + 1) ∧ c' (bc + 11) = nI 0 ∧ c' (bc + 12) = nI 0 ∧ c' (bc + 9) = nI 0 ∧ (∀ a, a < 10 → c' (bc + a) = nI 0) ∧ f' 4 = nI 1 ∧ (sl < 9 → ¬ s' (82 + 2 * sl) = nI 0))) ∧
  (c' (bc + 10) = nI o → sl < 9 → s' (82 + 2 * sl) = s (82 + 2 * sl)) ∧
  (∀ j, 28 ≤ j → (j < bc ∨ bc + 18 ≤ j) → (sl < 9 → j ≠ 28 + sl) → c' j = c j) ∧ (∀ i, 27 ≤ i → i ≠ 99 → (i < 27 + 18 * t ∨ 27 + 18 * t + 18 ≤ i) → (sl < 9 → i ≠ 82 + 2 * sl) → s' i = s i)
theorem momH_of (S : StC z ok N sg b m μ ν f t bc τ o r sl dl mn) (R : Rel z ok N sg c s) (p30 : pl < 30) (hop : op < 14 ∨ (20 ≤ op ∧ op < 27)) {d : Int32} (hd : d = nI 0 ∨ (d = nI 1 ∧ op ≤ 6)) (a0 : μ (b + 1 + 1) ((r * 30 + pl) * 5) = nI op) (dC : μ (b + 1 + 1) ((r * 30 + pl) * 5 + 4) = d) (dM : ν (m + 2) (732 + 30 * r + pl) = d) : momH z ok N sg b m μ ν c s f t bc o pl op ((r * 30 + pl) * 5) sl := by
  have hf := S.hf
  obtain ⟨hT, C, -, -, hok6, hs, o3, oN, ⟨hr, -, r6⟩, -, -⟩ := S
  have sl13 : sl < 13 := by have := hT.t3; omega
  have hat : (r * 30 + pl) * 5 + 4 < 900 := by omega
  by_cases h6 : op ≤ 6
  · obtain ⟨fl, v, n1, n2, n3⟩ := s_moment (b := b) (m := m) (f := f) (τ := τ) (o := o) (sl := sl) hok6 hT R (fun q => by
      rcases hs with h | h
      · exact ⟨h.2.1, h.2.2.1, by omega⟩
      · rw [q] at h; exact absurd h.1 (by decide)) (fun q => by
      rcases hs with h | h
      · rw [q] at h; exact absurd h.1 (by decide)
      · exact ⟨h.2.1, h.2.2.1, h.2.2.2.1, h.2.2.2.2.1, h.2.2.2.2.2⟩) (by omega) hr r6 p30 hat sl13 (by omega) a0 dC dM (hd.imp id (fun q => q.1))
    refine ⟨fl, v, n1, n2, n3, fun q => by omega, fun c' h45 h5 Q => ?_⟩
    rcases hd with rfl | ⟨rfl, -⟩
    · exact e_noteN hat a0 sl13 (Or.inl dC)
    · by_cases h9 : sl < 9
      · exact e_noteF hat hT.hi a0 h45 h9 dC h5
      · exact e_noteN hat a0 sl13 (Or.inr (by omega))
  · have d0 : d = nI 0 := hd.resolve_right (fun q => h6 q.2)
    subst d0
    refine ⟨false, 0, fun c' _ _ Q => e_noteN hat a0 sl13 (Or.inl dC), fun s' h1 h2 h3 Q => g_happensN hT.t3 hf h2 (by omega) hr r6 h3 p30 (Or.inr dM), fun c' s' h => h, fun _ i g => rfl, fun c' _ _ Q => e_noteN hat a0 sl13 (Or.inl dC)⟩
end ADV
