/-! what comes after, as names that a simplifier doesn't enter -/
section KON
variable {ρ : zE} {μ : zM}
def Ksq (b : zT) (Q : Nat → Int32 → zE → zM → Prop) : Nat → Int32 → zE → zM → Prop := fun t v ρ' m => if t = 0 then wp b ρ' m Q else Q t v ρ' m
theorem k_sq0 (b : zT) (Q : Nat → Int32 → zE → zM → Prop) (v : Int32) : Ksq b Q 0 v ρ μ = wp b ρ μ Q := rfl
theorem k_sq1 (b : zT) (Q : Nat → Int32 → zE → zM → Prop) (v : Int32) : Ksq b Q 1 v ρ μ = Q 1 v ρ μ := rfl
theorem k_sq2 (b : zT) (Q : Nat → Int32 → zE → zM → Prop) (v : Int32) : Ksq b Q 2 v ρ μ = Q 2 v ρ μ := rfl
theorem k_sq3 (b : zT) (Q : Nat → Int32 → zE → zM → Prop) (v : Int32) : Ksq b Q 3 v ρ μ = Q 3 v ρ μ := rfl
def Kse (k : Nat) (ρ : zE) (Q : Nat → Int32 → zE → zM → Prop) : Int32 → zM → Prop := fun v m => Q 0 0 (zup ρ k v) m
theorem k_se (k : Nat) (Q : Nat → Int32 → zE → zM → Prop) (v : Int32) : Kse k ρ Q v μ = Q 0 0 (zup ρ k v) μ := rfl
def Kex (ρ : zE) (Q : Nat → Int32 → zE → zM → Prop) : Int32 → zM → Prop := fun _ m => Q 0 0 ρ m
theorem k_ex (Q : Nat → Int32 → zE → zM → Prop) (v : Int32) : Kex ρ Q v μ = Q 0 0 ρ μ := rfl
def Krt (ρ : zE) (Q : Nat → Int32 → zE → zM → Prop) : Int32 → zM → Prop := fun v m => Q 3 v ρ m
theorem k_rt (Q : Nat → Int32 → zE → zM → Prop) (v : Int32) : Krt ρ Q v μ = Q 3 v ρ μ := rfl
def Kl (m : zM) (Q : Int32 → zM → Prop) : Int32 → Prop := fun v => Q v m
theorem k_l (Q : Int32 → zM → Prop) (v : Int32) : Kl μ Q v = Q v μ := rfl
def Kb2 (o : Int32 → Int32 → Int32) (x : Int32) (Q : Int32 → zM → Prop) : Int32 → zM → Prop := fun y m => Q (o x y) m
theorem k_b2 (o : Int32 → Int32 → Int32) (x y : Int32) (Q : Int32 → zM → Prop) : Kb2 o x Q y μ = Q (o x y) μ := rfl
def Kb1 (o : Int32 → Int32 → Int32) (b : zX) (ρ : zE) (Q : Int32 → zM → Prop) : Int32 → zM → Prop := fun x m => we b ρ m (Kb2 o x Q)
theorem k_b1 (o : Int32 → Int32 → Int32) (b : zX) (x : Int32) (Q : Int32 → zM → Prop) : Kb1 o b ρ Q x μ = we b ρ μ (Kb2 o x Q) := rfl
def Kq2 (o : Int32 → Int32 → Int32) (x : Int32) (Q : Int32 → zM → Prop) : Int32 → zM → Prop := fun y m => ¬ y = 0 ∧ Q (o x y) m
theorem k_q2 (o : Int32 → Int32 → Int32) (x y : Int32) (Q : Int32 → zM → Prop) : Kq2 o x Q y μ = (¬ y = 0 ∧ Q (o x y) μ) := rfl
def Kq1 (o : Int32 → Int32 → Int32) (b : zX) (ρ : zE) (Q : Int32 → zM → Prop) : Int32 → zM → Prop := fun x m => we b ρ m (Kq2 o x Q)
theorem k_q1 (o : Int32 → Int32 → Int32) (b : zX) (x : Int32) (Q : Int32 → zM → Prop) : Kq1 o b ρ Q x μ = we b ρ μ (Kq2 o x Q) := rfl
def Kald (n len : Nat) (Q : Int32 → zM → Prop) : Int32 → zM → Prop := fun x m => (0 ≤ x.toInt ∧ x.toInt < (len : Int)) ∧ Q (m n x.toInt.toNat) m
theorem k_ald {n len k : Nat} {Q : Int32 → zM → Prop} (h : k < len) (hl : len < 2147483648) : Kald n len Q (nI k) μ = Q (μ n k) μ := by
  unfold Kald; rw [n_ixt h hl, n_tn (by omega), true_and]
def Ktb (f : Nat → Int32) (len : Nat) (Q : Int32 → zM → Prop) : Int32 → zM → Prop := fun x m => (0 ≤ x.toInt ∧ x.toInt < (len : Int)) ∧ Q (f x.toInt.toNat) m
theorem k_tb {f : Nat → Int32} {len k : Nat} {Q : Int32 → zM → Prop} (h : k < len) (hl : len < 2147483648) : Ktb f len Q (nI k) μ = Q (f k) μ := by
  unfold Ktb; rw [n_ixt h hl, n_tn (by omega), true_and]
def Kpi (n len : Nat) (Q : Int32 → zM → Prop) : Int32 → zM → Prop := fun x m => (0 ≤ x.toInt ∧ x.toInt < (len : Int)) ∧ Q (m n x.toInt.toNat + 1) (zst m n x.toInt.toNat (m n x.toInt.toNat + 1))
theorem k_pi {n len k : Nat} {Q : Int32 → zM → Prop} (h : k < len) (hl : len < 2147483648) : Kpi n len Q (nI k) μ = Q (μ n k + 1) (zst μ n k (μ n k + 1)) := by
  unfold Kpi; rw [n_ixt h hl, n_tn (by omega), true_and]
def Kcond (a b : zX) (ρ : zE) (Q : Int32 → zM → Prop) : Bool → zM → Prop := fun x m => if x = true then we a ρ m Q else we b ρ m Q
theorem k_condT (a b : zX) (Q : Int32 → zM → Prop) : Kcond a b ρ Q true μ = we a ρ μ Q := rfl
theorem k_condF (a b : zX) (Q : Int32 → zM → Prop) : Kcond a b ρ Q false μ = we b ρ μ Q := rfl
theorem k_condK (v w : Int32) (p : Prop) {h : Decidable p} (Q : Int32 → zM → Prop) : Kcond (zk v) (zk w) ρ Q (@decide p h) μ = Q (@ite _ p h v w) μ := by
  by_cases hp : p
  · simp only [hp, decide_true, if_true]; rfl
  · simp only [hp, decide_false, if_false]; rfl
def Kcall (F : List Int32 → zM → Option (Int32 × zM)) (Q : Int32 → zM → Prop) : List Int32 → zM → Prop := fun vs m => wr (F vs m) Q
theorem k_call (F : List Int32 → zM → Option (Int32 × zM)) (vs : List Int32) (Q : Int32 → zM → Prop) : Kcall F Q vs μ = wr (F vs μ) Q := rfl
def Kac (v : Int32) (Q : List Int32 → zM → Prop) : List Int32 → zM → Prop := fun vs m => Q (v :: vs) m
theorem k_ac (v : Int32) (vs : List Int32) (Q : List Int32 → zM → Prop) : Kac v Q vs μ = Q (v :: vs) μ := rfl
def Kai (a : zA) (ρ : zE) (Q : List Int32 → zM → Prop) : Int32 → zM → Prop := fun v m => wa a ρ m (Kac v Q)
theorem k_ai (a : zA) (v : Int32) (Q : List Int32 → zM → Prop) : Kai a ρ Q v μ = wa a ρ μ (Kac v Q) := rfl
def Kaq (len : Nat) (a : zA) (ρ : zE) (Q : List Int32 → zM → Prop) : Int32 → zM → Prop := fun v m => (0 ≤ v.toInt ∧ v.toInt < (len : Int)) ∧ wa a ρ m (Kac v Q)
theorem k_aq {len k : Nat} {a : zA} {Q : List Int32 → zM → Prop} (h : k < len) (hl : len < 2147483648) : Kaq len a ρ Q (nI k) μ = wa a ρ μ (Kac (nI k) Q) := by
  unfold Kaq; rw [n_ixt h hl, true_and]
def Kc2 (o : Int32 → Int32 → Bool) (x : Int32) (Q : Bool → zM → Prop) : Int32 → zM → Prop := fun y m => Q (o x y) m
theorem k_c2 (o : Int32 → Int32 → Bool) (x y : Int32) (Q : Bool → zM → Prop) : Kc2 o x Q y μ = Q (o x y) μ := rfl
def Kc1 (o : Int32 → Int32 → Bool) (b : zX) (ρ : zE) (Q : Bool → zM → Prop) : Int32 → zM → Prop := fun x m => we b ρ m (Kc2 o x Q)
theorem k_c1 (o : Int32 → Int32 → Bool) (b : zX) (x : Int32) (Q : Bool → zM → Prop) : Kc1 o b ρ Q x μ = we b ρ μ (Kc2 o x Q) := rfl
def Kc0 (o : Int32 → Bool) (Q : Bool → zM → Prop) : Int32 → zM → Prop := fun x m => Q (o x) m
theorem k_c0 (o : Int32 → Bool) (x : Int32) (Q : Bool → zM → Prop) : Kc0 o Q x μ = Q (o x) μ := rfl
def Knt (Q : Bool → zM → Prop) : Bool → zM → Prop := fun x m => Q (!x) m
theorem k_nt (x : Bool) (Q : Bool → zM → Prop) : Knt Q x μ = Q (!x) μ := rfl
def Kand (d : zC) (ρ : zE) (Q : Bool → zM → Prop) : Bool → zM → Prop := fun x m => if x = true then wc d ρ m Q else Q false m
theorem k_andT (d : zC) (Q : Bool → zM → Prop) : Kand d ρ Q true μ = wc d ρ μ Q := rfl
theorem k_andF (d : zC) (Q : Bool → zM → Prop) : Kand d ρ Q false μ = Q false μ := rfl
def Kor (d : zC) (ρ : zE) (Q : Bool → zM → Prop) : Bool → zM → Prop := fun x m => if x = true then Q true m else wc d ρ m Q
theorem k_orT (d : zC) (Q : Bool → zM → Prop) : Kor d ρ Q true μ = Q true μ := rfl
theorem k_orF (d : zC) (Q : Bool → zM → Prop) : Kor d ρ Q false μ = wc d ρ μ Q := rfl
def Kas2 (n len : Nat) (x : Int32) (ρ : zE) (Q : Nat → Int32 → zE → zM → Prop) : Int32 → zM → Prop := fun v m => (0 ≤ x.toInt ∧ x.toInt < (len : Int)) ∧ Q 0 0 ρ (zst m n x.toInt.toNat v)
theorem k_as2 {n len k : Nat} {v : Int32} {Q : Nat → Int32 → zE → zM → Prop} (h : k < len) (hl : len < 2147483648) : Kas2 n len (nI k) ρ Q v μ = Q 0 0 ρ (zst μ n k v) := by
  unfold Kas2; rw [n_ixt h hl, n_tn (by omega), true_and]
def Kas1 (n len : Nat) (e : zX) (ρ : zE) (Q : Nat → Int32 → zE → zM → Prop) : Int32 → zM → Prop := fun x m => we e ρ m (Kas2 n len x ρ Q)
theorem k_as1 (n len : Nat) (e : zX) (x : Int32) (Q : Nat → Int32 → zE → zM → Prop) : Kas1 n len e ρ Q x μ = we e ρ μ (Kas2 n len x ρ Q) := rfl
def Kaz2 (n len : Nat) (x : Int32) (ρ : zE) (Q : Nat → Int32 → zE → zM → Prop) : Int32 → zM → Prop := fun v m => ((0 ≤ x.toInt ∧ x.toInt < (len : Int)) ∧ (v = 0 ∨ v = 1)) ∧ Q 0 0 ρ (zst m n x.toInt.toNat v)
theorem k_az2 {n len k : Nat} {v : Int32} {Q : Nat → Int32 → zE → zM → Prop} (h : k < len) (hl : len < 2147483648) : Kaz2 n len (nI k) ρ Q v μ = ((v = 0 ∨ v = 1) ∧ Q 0 0 ρ (zst μ n k v)) := by
  unfold Kaz2; rw [n_ixt h hl, n_tn (by omega), true_and]
def Kaz1 (n len : Nat) (e : zX) (ρ : zE) (Q : Nat → Int32 → zE → zM → Prop) : Int32 → zM → Prop := fun x m => we e ρ m (Kaz2 n len x ρ Q)
theorem k_az1 (n len : Nat) (e : zX) (x : Int32) (Q : Nat → Int32 → zE → zM → Prop) : Kaz1 n len e ρ Q x μ = we e ρ μ (Kaz2 n len x ρ Q) := rfl
def Kao2 (n : Nat) (o : Int32 → Int32 → Int32) (k : Nat) (y : Int32) (ρ : zE) (Q : Nat → Int32 → zE → zM → Prop) : Int32 → zM → Prop := fun v m => Q 0 0 ρ (zst m n k (o y v))
theorem k_ao2 (n : Nat) (o : Int32 → Int32 → Int32) (k : Nat) (y v : Int32) (Q : Nat → Int32 → zE → zM → Prop) : Kao2 n o k y ρ Q v μ = Q 0 0 ρ (zst μ n k (o y v)) := rfl
def Kao1 (n len : Nat) (o : Int32 → Int32 → Int32) (e : zX) (ρ : zE) (Q : Nat → Int32 → zE → zM → Prop) : Int32 → zM → Prop := fun x m => (0 ≤ x.toInt ∧ x.toInt < (len : Int)) ∧ we e ρ m (Kao2 n o x.toInt.toNat (m n x.toInt.toNat) ρ Q)
theorem k_ao1 {n len k : Nat} {o : Int32 → Int32 → Int32} {e : zX} {Q : Nat → Int32 → zE → zM → Prop} (h : k < len) (hl : len < 2147483648) : Kao1 n len o e ρ Q (nI k) μ = we e ρ μ (Kao2 n o k (μ n k) ρ Q) := by
  unfold Kao1; rw [n_ixt h hl, n_tn (by omega), true_and]
def Kpf (n k : Nat) (ρ : zE) (Q : Nat → Int32 → zE → zM → Prop) : Int32 → zM → Prop := fun v m => Q 0 0 ρ (zst m n k v)
theorem k_pf (n k : Nat) (v : Int32) (Q : Nat → Int32 → zE → zM → Prop) : Kpf n k ρ Q v μ = Q 0 0 ρ (zst μ n k v) := rfl
def Kpz (n k : Nat) (ρ : zE) (Q : Nat → Int32 → zE → zM → Prop) : Int32 → zM → Prop := fun v m => (v = 0 ∨ v = 1) ∧ Q 0 0 ρ (zst m n k v)
theorem k_pz (n k : Nat) (v : Int32) (Q : Nat → Int32 → zE → zM → Prop) : Kpz n k ρ Q v μ = ((v = 0 ∨ v = 1) ∧ Q 0 0 ρ (zst μ n k v)) := rfl
def Kfo (n k : Nat) (o : Int32 → Int32 → Int32) (y : Int32) (ρ : zE) (Q : Nat → Int32 → zE → zM → Prop) : Int32 → zM → Prop := fun v m => Q 0 0 ρ (zst m n k (o y v))
theorem k_fo (n k : Nat) (o : Int32 → Int32 → Int32) (y v : Int32) (Q : Nat → Int32 → zE → zM → Prop) : Kfo n k o y ρ Q v μ = Q 0 0 ρ (zst μ n k (o y v)) := rfl
def Kif (a b : zT) (ρ : zE) (Q : Nat → Int32 → zE → zM → Prop) : Bool → zM → Prop := fun x m => if x = true then wp a ρ m Q else wp b ρ m Q
theorem k_ifT (a b : zT) (Q : Nat → Int32 → zE → zM → Prop) : Kif a b ρ Q true μ = wp a ρ μ Q := rfl
theorem k_ifF (a b : zT) (Q : Nat → Int32 → zE → zM → Prop) : Kif a b ρ Q false μ = wp b ρ μ Q := rfl
def Kbr (Q : Nat → Int32 → zE → zM → Prop) : Nat → Int32 → zE → zM → Prop := fun t r ρ' m' => if t = 1 then Q 0 0 ρ' m' else Q t r ρ' m'
theorem k_br0 (Q : Nat → Int32 → zE → zM → Prop) (v : Int32) : Kbr Q 0 v ρ μ = Q 0 v ρ μ := rfl
theorem k_br1 (Q : Nat → Int32 → zE → zM → Prop) (v : Int32) : Kbr Q 1 v ρ μ = Q 0 0 ρ μ := rfl
theorem k_br2 (Q : Nat → Int32 → zE → zM → Prop) (v : Int32) : Kbr Q 2 v ρ μ = Q 2 v ρ μ := rfl
theorem k_br3 (Q : Nat → Int32 → zE → zM → Prop) (v : Int32) : Kbr Q 3 v ρ μ = Q 3 v ρ μ := rfl
def Ksw (lo : Int) (tb : List zT) (df : zT) (ρ : zE) (Q : Nat → Int32 → zE → zM → Prop) : Int32 → zM → Prop := fun v m => wp (if v.toInt < lo then df else (tb[(v.toInt - lo).toNat]?).getD df) ρ m (Kbr Q)
def zpk (k : Nat) (tb : List zT) (df : zT) : zT := match tb, k with
  | [], _ => df
  | a :: _, 0 => a
  | _ :: l, k + 1 => zpk k l df
theorem zpk_n (k : Nat) (df : zT) : zpk k [] df = df := by cases k <;> rfl
theorem zpk_z (a : zT) (l : List zT) (df : zT) : zpk 0 (a :: l) df = a := rfl
theorem zpk_s (k : Nat) (a : zT) (l : List zT) (df : zT) : zpk (k + 1) (a :: l) df = zpk k l df := rfl
theorem zpk_get (df : zT) : ∀ (tb : List zT) (k : Nat), (tb[k]?).getD df = zpk k tb df
  | [], k => by simp [zpk_n]
  | a :: l, 0 => rfl
  | a :: l, k + 1 => by rw [zpk_s, ← zpk_get df l k]; rfl
/-- a switch at a number from its lowest case on -/
theorem k_sw {lo k : Nat} {tb : List zT} {df : zT} {Q : Nat → Int32 → zE → zM → Prop} (h : lo ≤ k) (hk : k < 2147483648) : Ksw (OfNat.ofNat lo) tb df ρ Q (nI k) μ = wp (zpk (k - lo) tb df) ρ μ (Kbr Q) := by
  unfold Ksw
  have e : (OfNat.ofNat lo : Int) = (lo : Int) := rfl
  rw [e, n_toInt hk, if_neg (by omega), show ((k : Int) - (lo : Int)).toNat = k - lo by omega, zpk_get]
theorem k_swl {lo k : Nat} {tb : List zT} {df : zT} {Q : Nat → Int32 → zE → zM → Prop} (h : k < lo) (hk : k < 2147483648) : Ksw (OfNat.ofNat lo) tb df ρ Q (nI k) μ = wp df ρ μ (Kbr Q) := by
  unfold Ksw
  have e : (OfNat.ofNat lo : Int) = (lo : Int) := rfl
  rw [e, n_toInt hk, if_pos (by omega)]
theorem k_s0 {k : Nat} {tb : List zT} {df : zT} {Q : Nat → Int32 → zE → zM → Prop} (h : 0 ≤ k) (hk : k < 2147483648) : Ksw 0 tb df ρ Q (nI k) μ = wp (zpk (k - 0) tb df) ρ μ (Kbr Q) := k_sw (lo := 0) h hk
theorem k_s1 {k : Nat} {tb : List zT} {df : zT} {Q : Nat → Int32 → zE → zM → Prop} (h : 1 ≤ k) (hk : k < 2147483648) : Ksw 1 tb df ρ Q (nI k) μ = wp (zpk (k - 1) tb df) ρ μ (Kbr Q) := k_sw (lo := 1) h hk
theorem k_t1 {k : Nat} {tb : List zT} {df : zT} {Q : Nat → Int32 → zE → zM → Prop} (h : k < 1) : Ksw 1 tb df ρ Q (nI k) μ = wp df ρ μ (Kbr Q) := k_swl (lo := 1) h (by omega)
theorem k_s4 {k : Nat} {tb : List zT} {df : zT} {Q : Nat → Int32 → zE → zM → Prop} (h : 4 ≤ k) (hk : k < 2147483648) : Ksw 4 tb df ρ Q (nI k) μ = wp (zpk (k - 4) tb df) ρ μ (Kbr Q) := k_sw (lo := 4) h hk
theorem k_t4 {k : Nat} {tb : List zT} {df : zT} {Q : Nat → Int32 → zE → zM → Prop} (h : k < 4) : Ksw 4 tb df ρ Q (nI k) μ = wp df ρ μ (Kbr Q) := k_swl (lo := 4) h (by omega)
theorem k_s20 {k : Nat} {tb : List zT} {df : zT} {Q : Nat → Int32 → zE → zM → Prop} (h : 20 ≤ k) (hk : k < 2147483648) : Ksw 20 tb df ρ Q (nI k) μ = wp (zpk (k - 20) tb df) ρ μ (Kbr Q) := k_sw (lo := 20) h hk
theorem k_t20 {k : Nat} {tb : List zT} {df : zT} {Q : Nat → Int32 → zE → zM → Prop} (h : k < 20) : Ksw 20 tb df ρ Q (nI k) μ = wp df ρ μ (Kbr Q) := k_swl (lo := 20) h (by omega)
def Klw (sel : Int32 → zT) (ρ : zE) (Q : Nat → Int32 → zE → zM → Prop) : Int32 → zM → Prop := fun v m => wp (sel v) ρ m (Kbr Q)
theorem k_lw (sel : Int32 → zT) (v : Int32) (Q : Nat → Int32 → zE → zM → Prop) : Klw sel ρ Q v μ = wp (sel v) ρ μ (Kbr Q) := rfl
def Kfl (n len : Nat) (ρ : zE) (Q : Nat → Int32 → zE → zM → Prop) : Int32 → zM → Prop := fun v m => Q 0 0 ρ (zsa m n (fun k => if k < len then v else m n k))
theorem k_fl (n len : Nat) (v : Int32) (Q : Nat → Int32 → zE → zM → Prop) : Kfl n len ρ Q v μ = Q 0 0 ρ (zsa μ n (fun k => if k < len then v else μ n k)) := rfl
def Kcy3 (n n' len len' : Nat) (a b : Int32) (ρ : zE) (Q : Nat → Int32 → zE → zM → Prop) : Int32 → zM → Prop := fun q m3 => (0 ≤ a.toInt ∧ 0 ≤ b.toInt ∧ 0 ≤ q.toInt ∧ a.toInt + q.toInt ≤ (len : Int) ∧ b.toInt + q.toInt ≤ (len' : Int)) ∧ Q 0 0 ρ (zsa m3 n' (va_cpy (m3 n) (m3 n') a.toInt.toNat b.toInt.toNat q.toInt.toNat))
theorem k_cy3 {n n' len len' a b q : Nat} {Q : Nat → Int32 → zE → zM → Prop} (h1 : a + q ≤ len) (h2 : b + q ≤ len') (h3 : len < 2147483648) (h4 : len' < 2147483648) : Kcy3 n n' len len' (nI a) (nI b) ρ Q (nI q) μ = Q 0 0 ρ (zsa μ n' (va_cpy (μ n) (μ n') a b q)) := by
  unfold Kcy3
  rw [n_toInt (by omega), n_toInt (by omega), n_toInt (by omega)]
  simp only [Int.toNat_natCast, Int.natCast_nonneg, true_and, show ((a : Int) + (q : Int) ≤ (len : Int)) from by omega, show ((b : Int) + (q : Int) ≤ (len' : Int)) from by omega]
def Kcy2 (n n' len len' : Nat) (c : zX) (a : Int32) (ρ : zE) (Q : Nat → Int32 → zE → zM → Prop) : Int32 → zM → Prop := fun b m2 => we c ρ m2 (Kcy3 n n' len len' a b ρ Q)
theorem k_cy2 (n n' len len' : Nat) (c : zX) (a b : Int32) (Q : Nat → Int32 → zE → zM → Prop) : Kcy2 n n' len len' c a ρ Q b μ = we c ρ μ (Kcy3 n n' len len' a b ρ Q) := rfl
def Kcy1 (n n' len len' : Nat) (dp c : zX) (ρ : zE) (Q : Nat → Int32 → zE → zM → Prop) : Int32 → zM → Prop := fun a m1 => we dp ρ m1 (Kcy2 n n' len len' c a ρ Q)
theorem k_cy1 (n n' len len' : Nat) (dp c : zX) (a : Int32) (Q : Nat → Int32 → zE → zM → Prop) : Kcy1 n n' len len' dp c ρ Q a μ = we dp ρ μ (Kcy2 n n' len len' c a ρ Q) := rfl
def Kcd2 (b0 K L : Nat) (sp dp q : zX) (a : Int32) (ρ : zE) (Q : Nat → Int32 → zE → zM → Prop) : Int32 → zM → Prop := fun b m2 => ((0 ≤ a.toInt ∧ a.toInt < (K : Int)) ∧ (0 ≤ b.toInt ∧ b.toInt < (K : Int))) ∧ wp (zcy (b0 + a.toInt.toNat) (b0 + b.toInt.toNat) L L sp dp q) ρ m2 Q
theorem k_cd2 {b0 K L a b : Nat} {sp dp q : zX} {Q : Nat → Int32 → zE → zM → Prop} (ha : a < K) (hb : b < K) (hK : K < 2147483648) : Kcd2 b0 K L sp dp q (nI a) ρ Q (nI b) μ = wp (zcy (b0 + a) (b0 + b) L L sp dp q) ρ μ Q := by
  unfold Kcd2
  rw [n_ixt ha hK, n_ixt hb hK, n_tn (by omega), n_tn (by omega), true_and, true_and]
def Kcd1 (b0 K L : Nat) (j sp dp q : zX) (ρ : zE) (Q : Nat → Int32 → zE → zM → Prop) : Int32 → zM → Prop := fun a m1 => we j ρ m1 (Kcd2 b0 K L sp dp q a ρ Q)
theorem k_cd1 (b0 K L : Nat) (j sp dp q : zX) (a : Int32) (Q : Nat → Int32 → zE → zM → Prop) : Kcd1 b0 K L j sp dp q ρ Q a μ = we j ρ μ (Kcd2 b0 K L sp dp q a ρ Q) := rfl
def Kw3 (n : Nat) (c : zC) (b u : zT) (Q : Nat → Int32 → zE → zM → Prop) : Nat → Int32 → zE → zM → Prop := fun t _ ρ3 m3 => t = 0 ∧ wp (zwh n c b u) ρ3 m3 Q
theorem k_w3 (n : Nat) (c : zC) (b u : zT) (v : Int32) (Q : Nat → Int32 → zE → zM → Prop) : Kw3 n c b u Q 0 v ρ μ = wp (zwh n c b u) ρ μ Q := by simp [Kw3]
def Kw2 (n : Nat) (c : zC) (b u : zT) (Q : Nat → Int32 → zE → zM → Prop) : Nat → Int32 → zE → zM → Prop := fun t v ρ2 m2 => if t = 1 then Q 0 0 ρ2 m2 else if t = 3 then Q 3 v ρ2 m2 else wp u ρ2 m2 (Kw3 n c b u Q)
theorem k_w20 (n : Nat) (c : zC) (b u : zT) (v : Int32) (Q : Nat → Int32 → zE → zM → Prop) : Kw2 n c b u Q 0 v ρ μ = wp u ρ μ (Kw3 n c b u Q) := rfl
theorem k_w21 (n : Nat) (c : zC) (b u : zT) (v : Int32) (Q : Nat → Int32 → zE → zM → Prop) : Kw2 n c b u Q 1 v ρ μ = Q 0 0 ρ μ := rfl
theorem k_w22 (n : Nat) (c : zC) (b u : zT) (v : Int32) (Q : Nat → Int32 → zE → zM → Prop) : Kw2 n c b u Q 2 v ρ μ = wp u ρ μ (Kw3 n c b u Q) := rfl
theorem k_w23 (n : Nat) (c : zC) (b u : zT) (v : Int32) (Q : Nat → Int32 → zE → zM → Prop) : Kw2 n c b u Q 3 v ρ μ = Q 3 v ρ μ := rfl
def Kw1 (n : Nat) (c : zC) (b u : zT) (ρ : zE) (Q : Nat → Int32 → zE → zM → Prop) : Bool → zM → Prop := fun x m => if x = true then wp b ρ m (Kw2 n c b u Q) else Q 0 0 ρ m
theorem k_w1T (n : Nat) (c : zC) (b u : zT) (Q : Nat → Int32 → zE → zM → Prop) : Kw1 n c b u ρ Q true μ = wp b ρ μ (Kw2 n c b u Q) := rfl
theorem k_w1F (n : Nat) (c : zC) (b u : zT) (Q : Nat → Int32 → zE → zM → Prop) : Kw1 n c b u ρ Q false μ = Q 0 0 ρ μ := rfl
/-! the pieces with these names -/
theorem v_l (k : Nat) (Q : Int32 → zM → Prop) : we (zl k) ρ μ Q = wl (ρ k) (Kl μ Q) := w_l k Q
theorem v_bin (o : Int32 → Int32 → Int32) (a b : zX) (Q : Int32 → zM → Prop) : we (zbin o a b) ρ μ Q = we a ρ μ (Kb1 o b ρ Q) := w_bin o a b Q
theorem v_biq (o : Int32 → Int32 → Int32) (a b : zX) (Q : Int32 → zM → Prop) : we (zbiq o a b) ρ μ Q = we a ρ μ (Kq1 o b ρ Q) := w_biq o a b Q
theorem v_ald (n len : Nat) (i : zX) (Q : Int32 → zM → Prop) : we (zald n len i) ρ μ Q = we i ρ μ (Kald n len Q) := w_ald n len i Q
theorem v_tb (f : Nat → Int32) (len : Nat) (i : zX) (Q : Int32 → zM → Prop) : we (ztb f len i) ρ μ Q = we i ρ μ (Ktb f len Q) := w_tb f len i Q
theorem v_cond (c : zC) (a b : zX) (Q : Int32 → zM → Prop) : we (zcond c a b) ρ μ Q = wc c ρ μ (Kcond a b ρ Q) := w_cond c a b Q
theorem v_call (F : List Int32 → zM → Option (Int32 × zM)) (a : zA) (Q : Int32 → zM → Prop) : we (zcall F a) ρ μ Q = wa a ρ μ (Kcall F Q) := w_call F a Q
theorem v_pi (n len : Nat) (i : zX) (Q : Int32 → zM → Prop) : we (zpi n len i) ρ μ Q = we i ρ μ (Kpi n len Q) := w_pi n len i Q
theorem v_ai (e : zX) (a : zA) (Q : List Int32 → zM → Prop) : wa (zai e a) ρ μ Q = we e ρ μ (Kai a ρ Q) := w_ai e a Q
theorem v_aq (len : Nat) (e : zX) (a : zA) (Q : List Int32 → zM → Prop) : wa (zaq len e a) ρ μ Q = we e ρ μ (Kaq len a ρ Q) := w_aq len e a Q
theorem v_cmp (o : Int32 → Int32 → Bool) (a b : zX) (Q : Bool → zM → Prop) : wc (zcmp o a b) ρ μ Q = we a ρ μ (Kc1 o b ρ Q) := w_cmp o a b Q
theorem v_cm0 (o : Int32 → Bool) (a : zX) (Q : Bool → zM → Prop) : wc (zcm0 o a) ρ μ Q = we a ρ μ (Kc0 o Q) := w_cm0 o a Q
theorem v_nt (c : zC) (Q : Bool → zM → Prop) : wc (znt c) ρ μ Q = wc c ρ μ (Knt Q) := w_nt c Q
theorem v_and (c d : zC) (Q : Bool → zM → Prop) : wc (zand c d) ρ μ Q = wc c ρ μ (Kand d ρ Q) := w_and c d Q
theorem v_or (c d : zC) (Q : Bool → zM → Prop) : wc (zor c d) ρ μ Q = wc c ρ μ (Kor d ρ Q) := w_or c d Q
theorem v_rt (e : zX) (Q : Nat → Int32 → zE → zM → Prop) : wp (zrt e) ρ μ Q = we e ρ μ (Krt ρ Q) := w_rt e Q
theorem v_sq (a b : zT) (Q : Nat → Int32 → zE → zM → Prop) : wp (zsq a b) ρ μ Q = wp a ρ μ (Ksq b Q) := w_sq a b Q
theorem v_se (k : Nat) (e : zX) (Q : Nat → Int32 → zE → zM → Prop) : wp (zse k e) ρ μ Q = we e ρ μ (Kse k ρ Q) := w_se k e Q
theorem v_ex (e : zX) (Q : Nat → Int32 → zE → zM → Prop) : wp (zex e) ρ μ Q = we e ρ μ (Kex ρ Q) := w_ex e Q
theorem v_as (n len : Nat) (i e : zX) (Q : Nat → Int32 → zE → zM → Prop) : wp (zas n len i e) ρ μ Q = we i ρ μ (Kas1 n len e ρ Q) := w_as n len i e Q
theorem v_az (n len : Nat) (i e : zX) (Q : Nat → Int32 → zE → zM → Prop) : wp (zaz n len i e) ρ μ Q = we i ρ μ (Kaz1 n len e ρ Q) := w_az n len i e Q
theorem v_ao (n len : Nat) (i e : zX) (o : Int32 → Int32 → Int32) (Q : Nat → Int32 → zE → zM → Prop) : wp (zao n len i o e) ρ μ Q = we i ρ μ (Kao1 n len o e ρ Q) := w_ao n len i e o Q
theorem v_pf (n k : Nat) (e : zX) (Q : Nat → Int32 → zE → zM → Prop) : wp (zpf n k e) ρ μ Q = we e ρ μ (Kpf n k ρ Q) := w_pf n k e Q
theorem v_pz (n k : Nat) (e : zX) (Q : Nat → Int32 → zE → zM → Prop) : wp (zpz n k e) ρ μ Q = we e ρ μ (Kpz n k ρ Q) := w_pz n k e Q
theorem v_fo (n k : Nat) (o : Int32 → Int32 → Int32) (e : zX) (Q : Nat → Int32 → zE → zM → Prop) : wp (zfo n k o e) ρ μ Q = we e ρ μ (Kfo n k o (μ n k) ρ Q) := w_fot n k o e Q
theorem v_if (c : zC) (a b : zT) (Q : Nat → Int32 → zE → zM → Prop) : wp (zif c a b) ρ μ Q = wc c ρ μ (Kif a b ρ Q) := w_if c a b Q
theorem v_sw (e : zX) (lo : Int) (tb : List zT) (df : zT) (Q : Nat → Int32 → zE → zM → Prop) : wp (zsw e lo tb df) ρ μ Q = we e ρ μ (Ksw lo tb df ρ Q) := w_sw e lo tb df Q
theorem v_lw (e : zX) (sel : Int32 → zT) (Q : Nat → Int32 → zE → zM → Prop) : wp (zlw e sel) ρ μ Q = we e ρ μ (Klw sel ρ Q) := w_lw e sel Q
theorem v_fl (n len : Nat) (e : zX) (Q : Nat → Int32 → zE → zM → Prop) : wp (zfl n len e) ρ μ Q = we e ρ μ (Kfl n len ρ Q) := w_fl n len e Q
theorem v_cy (n n' len len' : Nat) (sp dp c : zX) (Q : Nat → Int32 → zE → zM → Prop) : wp (zcy n n' len len' sp dp c) ρ μ Q = we sp ρ μ (Kcy1 n n' len len' dp c ρ Q) := w_cy n n' len len' sp dp c Q
theorem v_cyd (b0 K L : Nat) (i j sp dp q : zX) (Q : Nat → Int32 → zE → zM → Prop) : wp (zcyd b0 K L i j sp dp q) ρ μ Q = we i ρ μ (Kcd1 b0 K L j sp dp q ρ Q) := w_cyd b0 K L i j sp dp q Q
theorem v_wh (n : Nat) (c : zC) (b u : zT) (Q : Nat → Int32 → zE → zM → Prop) : wp (zwh (n + 1) c b u) ρ μ Q = wc c ρ μ (Kw1 n c b u ρ Q) := w_wh n c b u Q
theorem v_wu (c : zC) (b u : zT) (Q : Nat → Int32 → zE → zM → Prop) : wp (zwh zFU c b u) ρ μ Q = wc c ρ μ (Kw1 19999 c b u ρ Q) := w_wh 19999 c b u Q
/-! the ends of methods -/
def Kfi (Q : Int32 → zM → Prop) : Nat → Int32 → zE → zM → Prop := fun t v _ m => t = 3 ∧ Q v m
theorem k_fi (v : Int32) (Q : Int32 → zM → Prop) : Kfi Q 3 v ρ μ = Q v μ := by simp [Kfi]
def Kfz (Q : Int32 → zM → Prop) : Nat → Int32 → zE → zM → Prop := fun t v _ m => (t = 3 ∧ (v = 0 ∨ v = 1)) ∧ Q v m
theorem k_fz (v : Int32) (Q : Int32 → zM → Prop) : Kfz Q 3 v ρ μ = ((v = 0 ∨ v = 1) ∧ Q v μ) := by simp [Kfz]
theorem k_fz1 (Q : Int32 → zM → Prop) : Kfz Q 3 (nI 1) ρ μ = Q (nI 1) μ := by rw [k_fz]; simp [n_eq1]
theorem k_fz0 (Q : Int32 → zM → Prop) : Kfz Q 3 (nI 0) ρ μ = Q (nI 0) μ := by rw [k_fz]; simp [n_eq0]
theorem k_fzi (p : Prop) {h : Decidable p} (Q : Int32 → zM → Prop) : Kfz Q 3 (@ite _ p h (nI 1) (nI 0)) ρ μ = Q (@ite _ p h (nI 1) (nI 0)) μ := by
  by_cases hp : p
  · simp only [hp, if_true]; exact k_fz1 Q
  · simp only [hp, if_false]; exact k_fz0 Q
def Kfv (Q : Int32 → zM → Prop) : Nat → Int32 → zE → zM → Prop := fun t _ _ m => (t = 0 ∨ t = 3) ∧ Q 0 m
theorem k_fv0 (v : Int32) (Q : Int32 → zM → Prop) : Kfv Q 0 v ρ μ = Q 0 μ := by simp [Kfv]
theorem k_fv3 (v : Int32) (Q : Int32 → zM → Prop) : Kfv Q 3 v ρ μ = Q 0 μ := by simp [Kfv]
theorem v_fi (b : zT) (Q : Int32 → zM → Prop) : wr (zfi b ρ μ) Q = wp b ρ μ (Kfi Q) := w_fi b Q
theorem v_fz (b : zT) (Q : Int32 → zM → Prop) : wr (zfz b ρ μ) Q = wp b ρ μ (Kfz Q) := w_fz b Q
theorem v_fv (b : zT) (Q : Int32 → zM → Prop) : wr (zfo0 b ρ μ) Q = wp b ρ μ (Kfv Q) := w_fo b Q
/-! loops -/
def KI (P : zE → zM → Prop) : Nat → Int32 → zE → zM → Prop := fun t _ ρ m => t = 0 ∧ P ρ m
theorem k_I (P : zE → zM → Prop) (v : Int32) : KI P 0 v ρ μ = P ρ μ := by simp [KI]
def KB (u : zT) (P : zE → zM → Prop) (Q : Nat → Int32 → zE → zM → Prop) : Nat → Int32 → zE → zM → Prop := fun t v ρ2 m2 => if t = 1 then Q 0 0 ρ2 m2 else if t = 3 then Q 3 v ρ2 m2 else wp u ρ2 m2 (KI P)
theorem k_B0 (u : zT) (P : zE → zM → Prop) (Q : Nat → Int32 → zE → zM → Prop) (v : Int32) : KB u P Q 0 v ρ μ = wp u ρ μ (KI P) := rfl
theorem k_B1 (u : zT) (P : zE → zM → Prop) (Q : Nat → Int32 → zE → zM → Prop) (v : Int32) : KB u P Q 1 v ρ μ = Q 0 0 ρ μ := rfl
theorem k_B2 (u : zT) (P : zE → zM → Prop) (Q : Nat → Int32 → zE → zM → Prop) (v : Int32) : KB u P Q 2 v ρ μ = wp u ρ μ (KI P) := rfl
theorem k_B3 (u : zT) (P : zE → zM → Prop) (Q : Nat → Int32 → zE → zM → Prop) (v : Int32) : KB u P Q 3 v ρ μ = Q 3 v ρ μ := rfl
def KC (b : zT) (u : zT) (ρ : zE) (P : zE → zM → Prop) (Q : Nat → Int32 → zE → zM → Prop) : Bool → zM → Prop := fun x m => x = true ∧ wp b ρ m (KB u P Q)
theorem k_C (b u : zT) (P : zE → zM → Prop) (Q : Nat → Int32 → zE → zM → Prop) : KC b u ρ P Q true μ = wp b ρ μ (KB u P Q) := by simp [KC]
def KE (ρ : zE) (Q : Nat → Int32 → zE → zM → Prop) : Bool → zM → Prop := fun x m => x = false ∧ Q 0 0 ρ m
theorem k_E (Q : Nat → Int32 → zE → zM → Prop) : KE ρ Q false μ = Q 0 0 ρ μ := by simp [KE]
/-- a loop by its invariant -/
theorem v_for {c : zC} {b u : zT} {Q : Nat → Int32 → zE → zM → Prop} (Inv : Nat → zE → zM → Prop) (n : Nat) (hn : n < 20000)
    (hb : ∀ (k : Nat) (ρ : zE) (μ : zM), k < n → Inv k ρ μ → wc c ρ μ (KC b u ρ (Inv (k + 1)) Q))
    (hq : ∀ (ρ : zE) (μ : zM), Inv n ρ μ → wc c ρ μ (KE ρ Q)) (h0 : Inv 0 ρ μ) : wp (zwh zFU c b u) ρ μ Q :=
  w_fu Inv n hn hb hq h0
/-- a loop that goes round fewer than n times -/
theorem v_gen {c : zC} {b u : zT} {Q : Nat → Int32 → zE → zM → Prop} (n : Nat) (hn : n ≤ 20000) (h : ∀ F : Nat, wp (zwh (F + n) c b u) ρ μ Q) : wp (zwh zFU c b u) ρ μ Q := by
  have e : zFU = (20000 - n) + n := by unfold zFU; omega
  rw [e]
  exact h _
theorem wr_fn {o : Option (Int32 × zM)} {r : Int32} {m : zM} (h : wr o (fun a b => a = r ∧ b = m)) (Q : Int32 → zM → Prop) : wr o Q = Q r m := by
  rw [wr_eq h]; rfl
end KON
