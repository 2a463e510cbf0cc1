/-! LEVEL 2: numbers, memories, loops -/
theorem n_add (a b : Nat) : nI a + nI b = nI (a + b) := by simp [nI]
theorem n_mul (a b : Nat) : nI a * nI b = nI (a * b) := by simp [nI]
theorem n_toInt {a : Nat} (h : a < 2147483648) : (nI a).toInt = (a : Int) := by
  unfold nI
  rw [Int32.toInt_ofNat_of_lt (by omega)]
theorem n_sub {a b : Nat} (h : b ≤ a) : nI a - nI b = nI (a - b) := by
  unfold nI
  rw [Int32.ofNat_sub _ _ h]
theorem n_eq {a b : Nat} (ha : a < 2147483648) (hb : b < 2147483648) : (nI a = nI b) ↔ a = b := ⟨fun h => by
  have := congrArg Int32.toInt h
  rw [n_toInt ha, n_toInt hb] at this
  omega, fun h => by rw [h]⟩
theorem n_lt {a b : Nat} (ha : a < 2147483648) (hb : b < 2147483648) : (nI a < nI b) ↔ a < b := by
  rw [Int32.lt_iff_toInt_lt, n_toInt ha, n_toInt hb]
  omega
theorem n_le {a b : Nat} (ha : a < 2147483648) (hb : b < 2147483648) : (nI a ≤ nI b) ↔ a ≤ b := by
  rw [Int32.le_iff_toInt_le, n_toInt ha, n_toInt hb]
  omega
theorem n_0 : (0 : Int32) = nI 0 := rfl
theorem n_1 : (1 : Int32) = nI 1 := rfl
theorem n_eq0 {a : Nat} (ha : a < 2147483648) : (nI a = 0) ↔ a = 0 := by rw [n_0]; exact n_eq ha (by omega)
theorem n_lt0 {a : Nat} (ha : a < 2147483648) : (nI a < 0) ↔ False := by rw [n_0, n_lt ha (by omega)]; simp
theorem n_ge0 {a : Nat} (ha : a < 2147483648) : (0 ≤ nI a) ↔ True := by rw [n_0, n_le (by omega) ha]; simp
theorem n_gt0 {a : Nat} (ha : a < 2147483648) : (0 < nI a) ↔ 0 < a := by rw [n_0, n_lt (by omega) ha]
theorem n_ixt {k n : Nat} (hn : k < n) (h : n < 2147483648) : (0 ≤ (nI k).toInt ∧ (nI k).toInt < (n : Int)) = True := by
  rw [n_toInt (by omega)]
  exact eq_true ⟨by omega, by omega⟩
theorem n_ix {k n : Nat} (hn : k < n) (h : n < 2147483648) : (0 ≤ (nI k).toInt ∧ (nI k).toInt < (n : Int)) := by
  rw [n_ixt hn h]; trivial
theorem n_tn {k : Nat} (h : k < 2147483648) : (nI k).toInt.toNat = k := by rw [n_toInt h]; rfl
theorem n_inc {k : Nat} : nI k + 1 = nI (k + 1) := (nI_succ k).symm
theorem n_in {n : Nat} {v : Int32} (h0 : 0 ≤ v.toInt) (h1 : v.toInt < (n : Int)) : ∃ k : Nat, k < n ∧ v = nI k := by
  refine ⟨v.toInt.toNat, by omega, ?_⟩
  apply Int32.toInt_inj.mp
  have := Int32.toInt_lt v
  rw [n_toInt (by omega)]
  omega
theorem n_in' {n : Nat} {v : Int32} (hn : n < 2147483648) (h0 : ¬ v < 0) (h1 : v < nI n) : ∃ k : Nat, k < n ∧ v = nI k := by
  rw [Int32.lt_iff_toInt_lt] at h0 h1
  rw [n_toInt hn] at h1
  have : (0 : Int32).toInt = 0 := rfl
  exact n_in (by omega) h1
/-! memories -/
theorem m_sa {μ : zM} {n : Nat} {f : Nat → Int32} : zsa μ n f n = f := by simp [zsa]
theorem m_ne {μ : zM} {n a : Nat} {f : Nat → Int32} (h : a ≠ n) : zsa μ n f a = μ a := by simp [zsa, h]
theorem m_st {μ : zM} {n k : Nat} {v : Int32} : zst μ n k v = zsa μ n (upd (μ n) k v) := rfl
theorem m_ss {μ : zM} {n : Nat} {f g : Nat → Int32} : zsa (zsa μ n f) n g = zsa μ n g := by
  funext a
  by_cases h : a = n <;> simp [zsa, h]
theorem m_id {μ : zM} {n : Nat} : zsa μ n (μ n) = μ := by
  funext a
  by_cases h : a = n <;> simp [zsa, h]
theorem u_eq {f : Nat → Int32} {k : Nat} {v : Int32} : upd f k v k = v := by simp [upd]
theorem u_at {f : Nat → Int32} {k j : Nat} {v : Int32} (h : j = k) : upd f k v j = v := by simp [upd, h]
theorem u_ne {f : Nat → Int32} {k j : Nat} {v : Int32} (h : j ≠ k) : upd f k v j = f j := by simp [upd, h]
/-- the model's memory: its state at b + 3, its fields at b -/
def zmm (μ : zM) (b : Nat) (s f : Nat → Int32) : zM := fun a => if a = b + 3 then s else if a = b then f else μ a
theorem mm_s {μ : zM} {b : Nat} {s f : Nat → Int32} : zmm μ b s f (b + 3) = s := by simp [zmm]
theorem mm_f {μ : zM} {b : Nat} {s f : Nat → Int32} : zmm μ b s f b = f := by simp [zmm]
theorem mm_ne {μ : zM} {b a : Nat} {s f : Nat → Int32} (h : a ≠ b + 3) (h' : a ≠ b) : zmm μ b s f a = μ a := by simp [zmm, h, h']
theorem mm_ss {μ : zM} {b : Nat} {s f s' : Nat → Int32} : zsa (zmm μ b s f) (b + 3) s' = zmm μ b s' f := by
  funext a
  by_cases h : a = b + 3 <;> simp [zsa, zmm, h]
theorem mm_sf {μ : zM} {b : Nat} {s f f' : Nat → Int32} : zsa (zmm μ b s f) b f' = zmm μ b s f' := by
  funext a
  by_cases h : a = b <;> simp [zsa, zmm, h]
theorem mm_id {μ : zM} {b : Nat} : zmm μ b (μ (b + 3)) (μ b) = μ := by
  funext a
  by_cases h : a = b + 3
  · simp [zmm, h]
  · by_cases h' : a = b <;> simp [zmm, h, h']
/-! methods' arguments -/
theorem zA0_ap (f : zM → Option (Int32 × zM)) (μ : zM) : zA0 f [] μ = f μ := rfl
theorem zA1_ap (f : Int32 → zM → Option (Int32 × zM)) (a : Int32) (μ : zM) : zA1 f [a] μ = f a μ := rfl
theorem zA2_ap (f : Int32 → Int32 → zM → Option (Int32 × zM)) (a b : Int32) (μ : zM) : zA2 f [a, b] μ = f a b μ := rfl
theorem zA3_ap (f : Int32 → Int32 → Int32 → zM → Option (Int32 × zM)) (a b c : Int32) (μ : zM) : zA3 f [a, b, c] μ = f a b c μ := rfl
theorem zA4_ap (f : Int32 → Int32 → Int32 → Int32 → zM → Option (Int32 × zM)) (a b c d : Int32) (μ : zM) : zA4 f [a, b, c, d] μ = f a b c d μ := rfl
theorem zA5_ap (f : Int32 → Int32 → Int32 → Int32 → Int32 → zM → Option (Int32 × zM)) (a b c d e : Int32) (μ : zM) : zA5 f [a, b, c, d, e] μ = f a b c d e μ := rfl
/-! loops -/
theorem wh_s (n : Nat) (c : zC) (b u : zT) (ρ : zE) (μ : zM) : zwh (n + 1) c b u ρ μ = match c ρ μ with
    | none => none
    | some (false, μ1) => some (0, 0, ρ, μ1)
    | some (true, μ1) => match b ρ μ1 with
      | none => none
      | some (t, v, ρ2, μ2) => if t = 1 then some (0, 0, ρ2, μ2) else if t = 3 then some (3, v, ρ2, μ2) else match u ρ2 μ2 with
        | none => none
        | some (t3, _, ρ3, μ3) => if t3 = 0 then zwh n c b u ρ3 μ3 else none := rfl
/-- a loop by its invariant: Inv k at the head; k grows from k0 to n -/
theorem wh_for {Q : Nat → Int32 → zE → zM → Prop} {c : zC} {b u : zT} (Inv : Nat → zE → zM → Prop) (n : Nat)
    (hc : ∀ (k : Nat) (ρ : zE) (μ : zM), k ≤ n → Inv k ρ μ → c ρ μ = some (decide (k < n), μ))
    (hb : ∀ (k : Nat) (ρ : zE) (μ : zM), k < n → Inv k ρ μ → ∃ (t : Nat) (v : Int32) (ρ' : zE) (μ' : zM), b ρ μ = some (t, v, ρ', μ') ∧ ((t = 1 ∧ Q 0 0 ρ' μ') ∨ (t = 3 ∧ Q 3 v ρ' μ') ∨ ((t = 0 ∨ t = 2) ∧ ∃ (v2 : Int32) (ρ2 : zE) (μ2 : zM), u ρ' μ' = some (0, v2, ρ2, μ2) ∧ Inv (k + 1) ρ2 μ2)))
    (hq : ∀ (ρ : zE) (μ : zM), Inv n ρ μ → Q 0 0 ρ μ) :
    ∀ (F k : Nat), n - k < F → k ≤ n → ∀ (ρ : zE) (μ : zM), Inv k ρ μ → ∃ (t : Nat) (v : Int32) (ρ' : zE) (μ' : zM), zwh F c b u ρ μ = some (t, v, ρ', μ') ∧ Q t v ρ' μ' := by
  intro F
  induction F with
  | zero => intro k h; omega
  | succ F ih =>
    intro k hF hk ρ μ hI
    rw [wh_s, hc k ρ μ hk hI]
    by_cases hlt : k < n
    · rw [decide_eq_true hlt]
      obtain ⟨t, v, ρ', μ', h1, h2⟩ := hb k ρ μ hlt hI
      dsimp only
      rw [h1]
      dsimp only
      rcases h2 with ⟨rfl, h2⟩ | ⟨rfl, h2⟩ | ⟨ht, v2, ρ2, μ2, h2, h3⟩
      · exact ⟨_, _, _, _, rfl, h2⟩
      · exact ⟨_, _, _, _, rfl, h2⟩
      · rw [if_neg (by omega), if_neg (by omega), h2]
        exact ih (k + 1) (by omega) (by omega) ρ2 μ2 h3
    · rw [decide_eq_false hlt]
      have : k = n := by omega
      subst this
      exact ⟨_, _, _, _, rfl, hq ρ μ hI⟩

/-! what a piece comes to, told by what is said of its end -/
def wr (o : Option (Int32 × zM)) (Q : Int32 → zM → Prop) : Prop := match o with
  | none => False
  | some (r, m) => Q r m
def wp (s : zT) (ρ : zE) (μ : zM) (Q : Nat → Int32 → zE → zM → Prop) : Prop := match s ρ μ with
  | none => False
  | some (t, v, ρ', m) => Q t v ρ' m
def we (e : zX) (ρ : zE) (μ : zM) (Q : Int32 → zM → Prop) : Prop := wr (e ρ μ) Q
def wc (c : zC) (ρ : zE) (μ : zM) (Q : Bool → zM → Prop) : Prop := match c ρ μ with
  | none => False
  | some (x, m) => Q x m
def wa (a : zA) (ρ : zE) (μ : zM) (Q : List Int32 → zM → Prop) : Prop := match a ρ μ with
  | none => False
  | some (x, m) => Q x m
def wl (o : Option Int32) (Q : Int32 → Prop) : Prop := match o with
  | none => False
  | some v => Q v
theorem wl_some (v : Int32) (Q : Int32 → Prop) : wl (some v) Q = Q v := rfl
section WPS
variable {ρ : zE} {μ : zM}
theorem wr_some (r : Int32) (m : zM) (Q : Int32 → zM → Prop) : wr (some (r, m)) Q = Q r m := rfl
theorem wr_get {o : Option (Int32 × zM)} {Q : Int32 → zM → Prop} (h : wr o Q) : ∃ r m, o = some (r, m) ∧ Q r m := by
  unfold wr at h
  split at h
  · cases h
  · exact ⟨_, _, rfl, h⟩
theorem wr_of {o : Option (Int32 × zM)} {r : Int32} {m : zM} {Q : Int32 → zM → Prop} (h : o = some (r, m)) (q : Q r m) : wr o Q := by
  rw [h]; exact q
theorem wr_mono {o : Option (Int32 × zM)} {P Q : Int32 → zM → Prop} (h : wr o P) (k : ∀ r m, P r m → Q r m) : wr o Q := by
  obtain ⟨r, m, e, p⟩ := wr_get h
  exact wr_of e (k r m p)
theorem wr_eq {o : Option (Int32 × zM)} {r : Int32} {m : zM} (h : wr o (fun a b => a = r ∧ b = m)) : o = some (r, m) := by
  obtain ⟨a, b, e, rfl, rfl⟩ := wr_get h
  exact e
theorem w_fi (b : zT) (Q : Int32 → zM → Prop) : wr (zfi b ρ μ) Q = wp b ρ μ (fun t v _ m => t = 3 ∧ Q v m) := by
  unfold wr wp zfi
  cases b ρ μ with
  | none => rfl
  | some p => obtain ⟨t, v, ρ', m⟩ := p; by_cases h : t = 3 <;> simp [h]
theorem w_fz (b : zT) (Q : Int32 → zM → Prop) : wr (zfz b ρ μ) Q = wp b ρ μ (fun t v _ m => (t = 3 ∧ (v = 0 ∨ v = 1)) ∧ Q v m) := by
  unfold wr wp zfz
  cases b ρ μ with
  | none => rfl
  | some p => obtain ⟨t, v, ρ', m⟩ := p; by_cases h : t = 3 ∧ (v = 0 ∨ v = 1) <;> simp [h]
theorem w_fo (b : zT) (Q : Int32 → zM → Prop) : wr (zfo0 b ρ μ) Q = wp b ρ μ (fun t _ _ m => (t = 0 ∨ t = 3) ∧ Q 0 m) := by
  unfold wr wp zfo0
  cases b ρ μ with
  | none => rfl
  | some p => obtain ⟨t, v, ρ', m⟩ := p; by_cases h : t = 0 ∨ t = 3 <;> simp [h]
theorem w_k (v : Int32) (Q : Int32 → zM → Prop) : we (zk v) ρ μ Q = Q v μ := rfl
theorem w_l (k : Nat) (Q : Int32 → zM → Prop) : we (zl k) ρ μ Q = wl (ρ k) (fun v => Q v μ) := by
  unfold we wr zl wl
  cases ρ k <;> rfl
theorem w_bin (o : Int32 → Int32 → Int32) (a b : zX) (Q : Int32 → zM → Prop) : we (zbin o a b) ρ μ Q = we a ρ μ (fun x m => we b ρ m (fun y m' => Q (o x y) m')) := by
  unfold we wr zbin
  cases a ρ μ with
  | none => rfl
  | some p => obtain ⟨x, m⟩ := p; dsimp only; cases b ρ m <;> rfl
theorem w_biq (o : Int32 → Int32 → Int32) (a b : zX) (Q : Int32 → zM → Prop) : we (zbiq o a b) ρ μ Q = we a ρ μ (fun x m => we b ρ m (fun y m' => ¬ y = 0 ∧ Q (o x y) m')) := by
  unfold we wr zbiq
  cases a ρ μ with
  | none => rfl
  | some p =>
    obtain ⟨x, m⟩ := p
    dsimp only
    cases b ρ m with
    | none => rfl
    | some p => obtain ⟨y, m'⟩ := p; by_cases h : y = 0 <;> simp [h]
theorem w_ald (n len : Nat) (i : zX) (Q : Int32 → zM → Prop) : we (zald n len i) ρ μ Q = we i ρ μ (fun x m => (0 ≤ x.toInt ∧ x.toInt < (len : Int)) ∧ Q (m n x.toInt.toNat) m) := by
  unfold we wr zald
  cases i ρ μ with
  | none => rfl
  | some p => obtain ⟨x, m⟩ := p; by_cases h : 0 ≤ x.toInt ∧ x.toInt < (len : Int) <;> simp [h]
theorem w_tb (f : Nat → Int32) (len : Nat) (i : zX) (Q : Int32 → zM → Prop) : we (ztb f len i) ρ μ Q = we i ρ μ (fun x m => (0 ≤ x.toInt ∧ x.toInt < (len : Int)) ∧ Q (f x.toInt.toNat) m) := by
  unfold we wr ztb
  cases i ρ μ with
  | none => rfl
  | some p => obtain ⟨x, m⟩ := p; by_cases h : 0 ≤ x.toInt ∧ x.toInt < (len : Int) <;> simp [h]
theorem w_al (len : Nat) (Q : Int32 → zM → Prop) : we (zal len) ρ μ Q = Q (nI len) μ := rfl
theorem w_fd (n k : Nat) (Q : Int32 → zM → Prop) : we (zfd n k) ρ μ Q = Q (μ n k) μ := rfl
theorem w_cond (c : zC) (a b : zX) (Q : Int32 → zM → Prop) : we (zcond c a b) ρ μ Q = wc c ρ μ (fun x m => if x = true then we a ρ m Q else we b ρ m Q) := by
  unfold wc we wr zcond
  cases c ρ μ with
  | none => rfl
  | some p => obtain ⟨x, m⟩ := p; cases x <;> rfl
theorem w_call (F : List Int32 → zM → Option (Int32 × zM)) (a : zA) (Q : Int32 → zM → Prop) : we (zcall F a) ρ μ Q = wa a ρ μ (fun vs m => wr (F vs m) Q) := by
  unfold we wa zcall
  cases a ρ μ <;> rfl
theorem w_pi (n len : Nat) (i : zX) (Q : Int32 → zM → Prop) : we (zpi n len i) ρ μ Q = we i ρ μ (fun x m => (0 ≤ x.toInt ∧ x.toInt < (len : Int)) ∧ Q (m n x.toInt.toNat + 1) (zst m n x.toInt.toNat (m n x.toInt.toNat + 1))) := by
  unfold we wr zpi
  cases i ρ μ with
  | none => rfl
  | some p => obtain ⟨x, m⟩ := p; by_cases h : 0 ≤ x.toInt ∧ x.toInt < (len : Int) <;> simp [h]
theorem w_an (Q : List Int32 → zM → Prop) : wa zan ρ μ Q = Q [] μ := rfl
theorem w_ai (e : zX) (a : zA) (Q : List Int32 → zM → Prop) : wa (zai e a) ρ μ Q = we e ρ μ (fun v m => wa a ρ m (fun vs m' => Q (v :: vs) m')) := by
  unfold wa we wr zai
  cases e ρ μ with
  | none => rfl
  | some p => obtain ⟨x, m⟩ := p; dsimp only; cases a ρ m <;> rfl
theorem w_aq (len : Nat) (e : zX) (a : zA) (Q : List Int32 → zM → Prop) : wa (zaq len e a) ρ μ Q = we e ρ μ (fun v m => (0 ≤ v.toInt ∧ v.toInt < (len : Int)) ∧ wa a ρ m (fun vs m' => Q (v :: vs) m')) := by
  unfold wa we wr zaq
  cases e ρ μ with
  | none => rfl
  | some p =>
    obtain ⟨x, m⟩ := p
    dsimp only
    by_cases h : 0 ≤ x.toInt ∧ x.toInt < (len : Int)
    · simp only [h, and_self, if_true, true_and]; cases a ρ m <;> rfl
    · simp [h]
theorem w_cmp (o : Int32 → Int32 → Bool) (a b : zX) (Q : Bool → zM → Prop) : wc (zcmp o a b) ρ μ Q = we a ρ μ (fun x m => we b ρ m (fun y m' => Q (o x y) m')) := by
  unfold wc we wr zcmp
  cases a ρ μ with
  | none => rfl
  | some p => obtain ⟨x, m⟩ := p; dsimp only; cases b ρ m <;> rfl
theorem w_cm0 (o : Int32 → Bool) (a : zX) (Q : Bool → zM → Prop) : wc (zcm0 o a) ρ μ Q = we a ρ μ (fun x m => Q (o x) m) := by
  unfold wc we wr zcm0
  cases a ρ μ <;> rfl
theorem w_cb (b : Bool) (Q : Bool → zM → Prop) : wc (zcb b) ρ μ Q = Q b μ := rfl
theorem w_nt (c : zC) (Q : Bool → zM → Prop) : wc (znt c) ρ μ Q = wc c ρ μ (fun x m => Q (!x) m) := by
  unfold wc znt
  cases c ρ μ <;> rfl
theorem w_and (c d : zC) (Q : Bool → zM → Prop) : wc (zand c d) ρ μ Q = wc c ρ μ (fun x m => if x = true then wc d ρ m Q else Q false m) := by
  unfold wc zand
  cases c ρ μ with
  | none => rfl
  | some p => obtain ⟨x, m⟩ := p; cases x <;> rfl
theorem w_or (c d : zC) (Q : Bool → zM → Prop) : wc (zor c d) ρ μ Q = wc c ρ μ (fun x m => if x = true then Q true m else wc d ρ m Q) := by
  unfold wc zor
  cases c ρ μ with
  | none => rfl
  | some p => obtain ⟨x, m⟩ := p; cases x <;> rfl
theorem w_sk (Q : Nat → Int32 → zE → zM → Prop) : wp zsk ρ μ Q = Q 0 0 ρ μ := rfl
theorem w_bk (Q : Nat → Int32 → zE → zM → Prop) : wp zbk ρ μ Q = Q 1 0 ρ μ := rfl
theorem w_cn (Q : Nat → Int32 → zE → zM → Prop) : wp zcn ρ μ Q = Q 2 0 ρ μ := rfl
theorem w_rv (Q : Nat → Int32 → zE → zM → Prop) : wp zrv ρ μ Q = Q 3 0 ρ μ := rfl
theorem w_rt (e : zX) (Q : Nat → Int32 → zE → zM → Prop) : wp (zrt e) ρ μ Q = we e ρ μ (fun v m => Q 3 v ρ m) := by
  unfold wp we wr zrt
  cases e ρ μ <;> rfl
theorem w_sq (a b : zT) (Q : Nat → Int32 → zE → zM → Prop) : wp (zsq a b) ρ μ Q = wp a ρ μ (fun t v ρ' m => if t = 0 then wp b ρ' m Q else Q t v ρ' m) := by
  unfold wp zsq
  cases a ρ μ with
  | none => rfl
  | some p => obtain ⟨t, v, ρ', m⟩ := p; by_cases h : t = 0 <;> simp [h]
theorem w_se (k : Nat) (e : zX) (Q : Nat → Int32 → zE → zM → Prop) : wp (zse k e) ρ μ Q = we e ρ μ (fun v m => Q 0 0 (zup ρ k v) m) := by
  unfold wp we wr zse
  cases e ρ μ <;> rfl
theorem w_ex (e : zX) (Q : Nat → Int32 → zE → zM → Prop) : wp (zex e) ρ μ Q = we e ρ μ (fun _ m => Q 0 0 ρ m) := by
  unfold wp we wr zex
  cases e ρ μ <;> rfl
theorem w_as (n len : Nat) (i e : zX) (Q : Nat → Int32 → zE → zM → Prop) : wp (zas n len i e) ρ μ Q = we i ρ μ (fun x m => we e ρ m (fun v m' => (0 ≤ x.toInt ∧ x.toInt < (len : Int)) ∧ Q 0 0 ρ (zst m' n x.toInt.toNat v))) := by
  unfold wp we wr zas
  cases i ρ μ with
  | none => rfl
  | some p =>
    obtain ⟨x, m⟩ := p
    dsimp only
    cases e ρ m with
    | none => rfl
    | some p => obtain ⟨v, m'⟩ := p; by_cases h : 0 ≤ x.toInt ∧ x.toInt < (len : Int) <;> simp [h]
theorem w_az (n len : Nat) (i e : zX) (Q : Nat → Int32 → zE → zM → Prop) : wp (zaz n len i e) ρ μ Q = we i ρ μ (fun x m => we e ρ m (fun v m' => ((0 ≤ x.toInt ∧ x.toInt < (len : Int)) ∧ (v = 0 ∨ v = 1)) ∧ Q 0 0 ρ (zst m' n x.toInt.toNat v))) := by
  unfold wp we wr zaz
  cases i ρ μ with
  | none => rfl
  | some p =>
    obtain ⟨x, m⟩ := p
    dsimp only
    cases e ρ m with
    | none => rfl
    | some p => obtain ⟨v, m'⟩ := p; by_cases h : (0 ≤ x.toInt ∧ x.toInt < (len : Int)) ∧ (v = 0 ∨ v = 1) <;> simp [h]
theorem w_ao (n len : Nat) (i e : zX) (o : Int32 → Int32 → Int32) (Q : Nat → Int32 → zE → zM → Prop) : wp (zao n len i o e) ρ μ Q = we i ρ μ (fun x m => (0 ≤ x.toInt ∧ x.toInt < (len : Int)) ∧ we e ρ m (fun v m' => Q 0 0 ρ (zst m' n x.toInt.toNat (o (m n x.toInt.toNat) v)))) := by
  unfold wp we wr zao
  cases i ρ μ with
  | none => rfl
  | some p =>
    obtain ⟨x, m⟩ := p
    dsimp only
    by_cases h : 0 ≤ x.toInt ∧ x.toInt < (len : Int)
    · simp only [h, and_self, if_true, true_and]
      cases e ρ m <;> rfl
    · simp [h]
theorem w_pf (n k : Nat) (e : zX) (Q : Nat → Int32 → zE → zM → Prop) : wp (zpf n k e) ρ μ Q = we e ρ μ (fun v m => Q 0 0 ρ (zst m n k v)) := by
  unfold wp we wr zpf
  cases e ρ μ <;> rfl
theorem w_pz (n k : Nat) (e : zX) (Q : Nat → Int32 → zE → zM → Prop) : wp (zpz n k e) ρ μ Q = we e ρ μ (fun v m => (v = 0 ∨ v = 1) ∧ Q 0 0 ρ (zst m n k v)) := by
  unfold wp we wr zpz
  cases e ρ μ with
  | none => rfl
  | some p => obtain ⟨v, m⟩ := p; by_cases h : v = 0 ∨ v = 1 <;> simp [h]
theorem w_fot (n k : Nat) (o : Int32 → Int32 → Int32) (e : zX) (Q : Nat → Int32 → zE → zM → Prop) : wp (zfo n k o e) ρ μ Q = we e ρ μ (fun v m => Q 0 0 ρ (zst m n k (o (μ n k) v))) := by
  unfold wp we wr zfo
  cases e ρ μ <;> rfl
theorem w_if (c : zC) (a b : zT) (Q : Nat → Int32 → zE → zM → Prop) : wp (zif c a b) ρ μ Q = wc c ρ μ (fun x m => if x = true then wp a ρ m Q else wp b ρ m Q) := by
  unfold wp wc zif
  cases c ρ μ with
  | none => rfl
  | some p => obtain ⟨x, m⟩ := p; cases x <;> rfl
theorem w_sw (e : zX) (lo : Int) (tb : List zT) (df : zT) (Q : Nat → Int32 → zE → zM → Prop) : wp (zsw e lo tb df) ρ μ Q = we e ρ μ (fun v m => wp (if v.toInt < lo then df else (tb[(v.toInt - lo).toNat]?).getD df) ρ m (fun t r ρ' m' => if t = 1 then Q 0 0 ρ' m' else Q t r ρ' m')) := by
  unfold wp we wr zsw
  cases e ρ μ with
  | none => rfl
  | some p =>
    obtain ⟨v, m⟩ := p
    dsimp only
    generalize (if v.toInt < lo then df else (tb[(v.toInt - lo).toNat]?).getD df) = s
    cases s ρ m with
    | none => rfl
    | some p => obtain ⟨t, r, ρ', m'⟩ := p; by_cases h : t = 1 <;> simp [h]
theorem w_lw (e : zX) (sel : Int32 → zT) (Q : Nat → Int32 → zE → zM → Prop) : wp (zlw e sel) ρ μ Q = we e ρ μ (fun v m => wp (sel v) ρ m (fun t r ρ' m' => if t = 1 then Q 0 0 ρ' m' else Q t r ρ' m')) := by
  unfold wp we wr zlw
  cases e ρ μ with
  | none => rfl
  | some p =>
    obtain ⟨v, m⟩ := p
    dsimp only
    cases sel v ρ m with
    | none => rfl
    | some p => obtain ⟨t, r, ρ', m'⟩ := p; by_cases h : t = 1 <;> simp [h]
theorem w_fl (n len : Nat) (e : zX) (Q : Nat → Int32 → zE → zM → Prop) : wp (zfl n len e) ρ μ Q = we e ρ μ (fun v m => Q 0 0 ρ (zsa m n (fun k => if k < len then v else m n k))) := by
  unfold wp we wr zfl
  cases e ρ μ <;> rfl
theorem w_cy (n n' len len' : Nat) (sp dp c : zX) (Q : Nat → Int32 → zE → zM → Prop) : wp (zcy n n' len len' sp dp c) ρ μ Q = we sp ρ μ (fun a m1 => we dp ρ m1 (fun b m2 => we c ρ m2 (fun q m3 => (0 ≤ a.toInt ∧ 0 ≤ b.toInt ∧ 0 ≤ q.toInt ∧ a.toInt + q.toInt ≤ (len : Int) ∧ b.toInt + q.toInt ≤ (len' : Int)) ∧ Q 0 0 ρ (zsa m3 n' (va_cpy (m3 n) (m3 n') a.toInt.toNat b.toInt.toNat q.toInt.toNat))))) := by
  unfold wp we wr zcy
  cases sp ρ μ with
  | none => rfl
  | some p =>
    obtain ⟨a, m⟩ := p
    dsimp only
    cases dp ρ m with
    | none => rfl
    | some p =>
      obtain ⟨b, m2⟩ := p
      dsimp only
      cases c ρ m2 with
      | none => rfl
      | some p => obtain ⟨q, m3⟩ := p; by_cases h : (0 ≤ a.toInt ∧ 0 ≤ b.toInt ∧ 0 ≤ q.toInt ∧ a.toInt + q.toInt ≤ (len : Int) ∧ b.toInt + q.toInt ≤ (len' : Int)) <;> simp [h]
theorem w_cyd (b0 K L : Nat) (i j sp dp q : zX) (Q : Nat → Int32 → zE → zM → Prop) : wp (zcyd b0 K L i j sp dp q) ρ μ Q = we i ρ μ (fun a m1 => we j ρ m1 (fun b m2 => ((0 ≤ a.toInt ∧ a.toInt < (K : Int)) ∧ (0 ≤ b.toInt ∧ b.toInt < (K : Int))) ∧ wp (zcy (b0 + a.toInt.toNat) (b0 + b.toInt.toNat) L L sp dp q) ρ m2 Q)) := by
  cases h0 : i ρ μ with
  | none => simp only [wp, zcyd, we, wr, h0]
  | some p =>
    obtain ⟨a, m⟩ := p
    cases h1 : j ρ m with
    | none => simp only [wp, zcyd, we, wr, h0, h1]
    | some p =>
      obtain ⟨b, m2⟩ := p
      by_cases h : (0 ≤ a.toInt ∧ a.toInt < (K : Int)) ∧ (0 ≤ b.toInt ∧ b.toInt < (K : Int))
      · simp only [wp, zcyd, we, wr, h0, h1, eq_true h, if_true, true_and]
      · simp only [wp, zcyd, we, wr, h0, h1, eq_false h, if_false, false_and]
theorem w_lr (i : Nat) (b : zT) (Q : Nat → Int32 → zE → zM → Prop) : wp (zlr i b) ρ μ Q = wp b (fun k => if k = i then none else ρ k) μ Q := rfl
theorem wp_mono {s : zT} {P Q : Nat → Int32 → zE → zM → Prop} (h : wp s ρ μ P) (k : ∀ t v ρ' m, P t v ρ' m → Q t v ρ' m) : wp s ρ μ Q := by
  unfold wp at h ⊢
  split at h
  · cases h
  · exact k _ _ _ _ h
/-- a loop, unrolled once -/
theorem w_wh (n : Nat) (c : zC) (b u : zT) (Q : Nat → Int32 → zE → zM → Prop) : wp (zwh (n + 1) c b u) ρ μ Q = wc c ρ μ (fun x m => if x = true then wp b ρ m (fun t v ρ2 m2 => if t = 1 then Q 0 0 ρ2 m2 else if t = 3 then Q 3 v ρ2 m2 else wp u ρ2 m2 (fun t3 _ ρ3 m3 => t3 = 0 ∧ wp (zwh n c b u) ρ3 m3 Q)) else Q 0 0 ρ m) := by
  unfold wp wc
  rw [wh_s]
  cases c ρ μ with
  | none => rfl
  | some p =>
    obtain ⟨x, m⟩ := p
    cases x with
    | false => rfl
    | true =>
      dsimp only
      cases b ρ m with
      | none => rfl
      | some p =>
        obtain ⟨t, v, ρ2, m2⟩ := p
        by_cases h1 : t = 1
        · simp [h1]
        · by_cases h3 : t = 3
          · simp [h3]
          · simp only [h1, h3, if_false]
            cases u ρ2 m2 with
            | none => rfl
            | some p => obtain ⟨t3, v3, ρ3, m3⟩ := p; by_cases h : t3 = 0 <;> simp [h]
/-- a loop by its invariant: Inv k at its head, k from k0 to n -/
theorem w_for {c : zC} {b u : zT} {Q : Nat → Int32 → zE → zM → Prop} (Inv : Nat → zE → zM → Prop) (n : Nat)
    (hb : ∀ (k : Nat) (ρ : zE) (μ : zM), k < n → Inv k ρ μ → wc c ρ μ (fun x m => x = true ∧ wp b ρ m (fun t v ρ2 m2 => if t = 1 then Q 0 0 ρ2 m2 else if t = 3 then Q 3 v ρ2 m2 else wp u ρ2 m2 (fun t3 _ ρ3 m3 => t3 = 0 ∧ Inv (k + 1) ρ3 m3))))
    (hq : ∀ (ρ : zE) (μ : zM), Inv n ρ μ → wc c ρ μ (fun x m => x = false ∧ Q 0 0 ρ m)) :
    ∀ (F k : Nat), n - k < F → k ≤ n → ∀ (ρ : zE) (μ : zM), Inv k ρ μ → wp (zwh F c b u) ρ μ Q := by
  intro F
  induction F with
  | zero => intro k h; omega
  | succ F ih =>
    intro k hF hk ρ μ hI
    rw [w_wh]
    by_cases hlt : k < n
    · have h := hb k ρ μ hlt hI
      unfold wc at h ⊢
      split at h
      · cases h
      · rename_i x m e
        obtain ⟨rfl, h⟩ := h
        simp only [if_true]
        refine wp_mono h fun t v ρ2 m2 h => ?_
        by_cases h1 : t = 1
        · simpa [h1] using h
        · by_cases h3 : t = 3
          · simpa [h3] using h
          · simp only [h1, h3, if_false] at h ⊢
            exact wp_mono h fun t3 _ ρ3 m3 h => ⟨h.1, ih (k + 1) (by omega) (by omega) ρ3 m3 h.2⟩
    · have hkn : k = n := by omega
      subst hkn
      have h := hq ρ μ hI
      unfold wc at h ⊢
      split at h
      · cases h
      · obtain ⟨rfl, h⟩ := h
        simpa using h
/-- the same, where the loop is the usual one over zFU -/
theorem w_fu {c : zC} {b u : zT} {Q : Nat → Int32 → zE → zM → Prop} (Inv : Nat → zE → zM → Prop) (n : Nat) (hn : n < 20000)
    (hb : ∀ (k : Nat) (ρ : zE) (μ : zM), k < n → Inv k ρ μ → wc c ρ μ (fun x m => x = true ∧ wp b ρ m (fun t v ρ2 m2 => if t = 1 then Q 0 0 ρ2 m2 else if t = 3 then Q 3 v ρ2 m2 else wp u ρ2 m2 (fun t3 _ ρ3 m3 => t3 = 0 ∧ Inv (k + 1) ρ3 m3))))
    (hq : ∀ (ρ : zE) (μ : zM), Inv n ρ μ → wc c ρ μ (fun x m => x = false ∧ Q 0 0 ρ m)) (h0 : Inv 0 ρ μ) : wp (zwh zFU c b u) ρ μ Q :=
  w_for Inv n hb hq zFU 0 (by unfold zFU; omega) (Nat.zero_le _) ρ μ h0
theorem q_t10 {p : Prop} {h : Decidable p} : (@ite Int32 p h (nI 1) (nI 0) = 0) = ¬ p := by
  by_cases hp : p
  · simp [hp, n_eq0]
  · simp [hp, n_eq0]
theorem n_eq1 {a : Nat} (ha : a < 2147483648) : (nI a = 1) ↔ a = 1 := by rw [n_1]; exact n_eq ha (by omega)
end WPS
