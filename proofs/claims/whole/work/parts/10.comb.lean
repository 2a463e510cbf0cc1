/-! PIECES: expressions -/
def zk (v : Int32) : zX := fun _ μ => some (v, μ)
def zl (k : Nat) : zX := fun ρ μ => match ρ k with
  | none => none
  | some v => some (v, μ)
def zbin (o : Int32 → Int32 → Int32) (a b : zX) : zX := fun ρ μ => match a ρ μ with
  | none => none
  | some (x, μ1) => match b ρ μ1 with
    | none => none
    | some (y, μ2) => some (o x y, μ2)
def zbiq (o : Int32 → Int32 → Int32) (a b : zX) : zX := fun ρ μ => match a ρ μ with
  | none => none
  | some (x, μ1) => match b ρ μ1 with
    | none => none
    | some (y, μ2) => if y = 0 then none else some (o x y, μ2)
def zib (i : Int32) (n : Nat) : Prop := 0 ≤ i.toInt ∧ i.toInt < (n : Int)
theorem zib_in {i : Int32} {n : Nat} (h : zib i n) : vp_in i n := by
  obtain ⟨h1, h2⟩ := h
  rintro (q | q)
  · have := Int32.lt_iff_toInt_lt.mp q
    have h0 : (0 : Int32).toInt = 0 := rfl
    omega
  · have e : i.toNatClampNeg = i.toInt.toNat := rfl
    omega
def zald (n len : Nat) (i : zX) : zX := fun ρ μ => match i ρ μ with
  | none => none
  | some (x, μ1) => if 0 ≤ x.toInt ∧ x.toInt < (len : Int) then some (μ1 n x.toInt.toNat, μ1) else none
/-- a static table -/
def ztb (f : Nat → Int32) (len : Nat) (i : zX) : zX := fun ρ μ => match i ρ μ with
  | none => none
  | some (x, μ1) => if 0 ≤ x.toInt ∧ x.toInt < (len : Int) then some (f x.toInt.toNat, μ1) else none
def zal (len : Nat) : zX := fun _ μ => some (Int32.ofNat len, μ)
def zfd (n k : Nat) : zX := fun _ μ => some (μ n k, μ)
def zcond (c : zC) (a b : zX) : zX := fun ρ μ => match c ρ μ with
  | none => none
  | some (true, μ1) => a ρ μ1
  | some (false, μ1) => b ρ μ1
def zcall (F : List Int32 → zM → Option (Int32 × zM)) (a : zA) : zX := fun ρ μ => match a ρ μ with
  | none => none
  | some (vs, μ1) => F vs μ1
def zan : zA := fun _ μ => some ([], μ)
def zai (e : zX) (a : zA) : zA := fun ρ μ => match e ρ μ with
  | none => none
  | some (v, μ1) => match a ρ μ1 with
    | none => none
    | some (vs, μ2) => some (v :: vs, μ2)
def zaq (len : Nat) (e : zX) (a : zA) : zA := fun ρ μ => match e ρ μ with
  | none => none
  | some (v, μ1) => if 0 ≤ v.toInt ∧ v.toInt < (len : Int) then match a ρ μ1 with
    | none => none
    | some (vs, μ2) => some (v :: vs, μ2) else none
/-! conditions -/
def zcmp (o : Int32 → Int32 → Bool) (a b : zX) : zC := fun ρ μ => match a ρ μ with
  | none => none
  | some (x, μ1) => match b ρ μ1 with
    | none => none
    | some (y, μ2) => some (o x y, μ2)
def zcm0 (o : Int32 → Bool) (a : zX) : zC := fun ρ μ => match a ρ μ with
  | none => none
  | some (x, μ1) => some (o x, μ1)
def zcb (b : Bool) : zC := fun _ μ => some (b, μ)
def znt (c : zC) : zC := fun ρ μ => match c ρ μ with
  | none => none
  | some (b, μ1) => some (!b, μ1)
def zand (c d : zC) : zC := fun ρ μ => match c ρ μ with
  | none => none
  | some (true, μ1) => d ρ μ1
  | some (false, μ1) => some (false, μ1)
def zor (c d : zC) : zC := fun ρ μ => match c ρ μ with
  | none => none
  | some (true, μ1) => some (true, μ1)
  | some (false, μ1) => d ρ μ1
/-! statements -/
def zsk : zT := fun ρ μ => some (0, 0, ρ, μ)
def zno : zT := fun _ _ => none
def zbk : zT := fun ρ μ => some (1, 0, ρ, μ)
def zcn : zT := fun ρ μ => some (2, 0, ρ, μ)
def zrv : zT := fun ρ μ => some (3, 0, ρ, μ)
def zrt (e : zX) : zT := fun ρ μ => match e ρ μ with
  | none => none
  | some (v, μ1) => some (3, v, ρ, μ1)
def zsq (a b : zT) : zT := fun ρ μ => match a ρ μ with
  | none => none
  | some (t, v, ρ1, μ1) => if t = 0 then b ρ1 μ1 else some (t, v, ρ1, μ1)
def zse (k : Nat) (e : zX) : zT := fun ρ μ => match e ρ μ with
  | none => none
  | some (v, μ1) => some (0, 0, zup ρ k v, μ1)
def zex (e : zX) : zT := fun ρ μ => match e ρ μ with
  | none => none
  | some (_, μ1) => some (0, 0, ρ, μ1)
def zas (n len : Nat) (i e : zX) : zT := fun ρ μ => match i ρ μ with
  | none => none
  | some (x, μ1) => match e ρ μ1 with
    | none => none
    | some (v, μ2) => if 0 ≤ x.toInt ∧ x.toInt < (len : Int) then some (0, 0, ρ, zst μ2 n x.toInt.toNat v) else none
def zaz (n len : Nat) (i e : zX) : zT := fun ρ μ => match i ρ μ with
  | none => none
  | some (x, μ1) => match e ρ μ1 with
    | none => none
    | some (v, μ2) => if (0 ≤ x.toInt ∧ x.toInt < (len : Int)) ∧ (v = 0 ∨ v = 1) then some (0, 0, ρ, zst μ2 n x.toInt.toNat v) else none
def zao (n len : Nat) (i : zX) (o : Int32 → Int32 → Int32) (e : zX) : zT := fun ρ μ => match i ρ μ with
  | none => none
  | some (x, μ1) => if 0 ≤ x.toInt ∧ x.toInt < (len : Int) then match e ρ μ1 with
    | none => none
    | some (v, μ2) => some (0, 0, ρ, zst μ2 n x.toInt.toNat (o (μ1 n x.toInt.toNat) v)) else none
def zpf (n k : Nat) (e : zX) : zT := fun ρ μ => match e ρ μ with
  | none => none
  | some (v, μ1) => some (0, 0, ρ, zst μ1 n k v)
def zpz (n k : Nat) (e : zX) : zT := fun ρ μ => match e ρ μ with
  | none => none
  | some (v, μ1) => if v = 0 ∨ v = 1 then some (0, 0, ρ, zst μ1 n k v) else none
def zfo (n k : Nat) (o : Int32 → Int32 → Int32) (e : zX) : zT := fun ρ μ => match e ρ μ with
  | none => none
  | some (v, μ1) => some (0, 0, ρ, zst μ1 n k (o (μ n k) v))
def zif (c : zC) (a b : zT) : zT := fun ρ μ => match c ρ μ with
  | none => none
  | some (true, μ1) => a ρ μ1
  | some (false, μ1) => b ρ μ1
def zwh : Nat → zC → zT → zT → zT
  | 0, _, _, _ => fun _ _ => none
  | n + 1, c, b, u => fun ρ μ => match c ρ μ with
    | none => none
    | some (false, μ1) => some (0, 0, ρ, μ1)
    | some (true, μ1) => match b ρ μ1 with
      | none => none
      | some (t, v, ρ2, μ2) => if t = 1 then some (0, 0, ρ2, μ2) else if t = 3 then some (3, v, ρ2, μ2) else match u ρ2 μ2 with
        | none => none
        | some (t3, _, ρ3, μ3) => if t3 = 0 then zwh n c b u ρ3 μ3 else none
/-- a switch: the groups by table, 'break' ends it -/
def zsw (e : zX) (lo : Int) (tb : List zT) (df : zT) : zT := fun ρ μ => match e ρ μ with
  | none => none
  | some (v, μ1) => match (if v.toInt < lo then df else (tb[(v.toInt - lo).toNat]?).getD df) ρ μ1 with
    | none => none
    | some (t, r, ρ2, μ2) => if t = 1 then some (0, 0, ρ2, μ2) else some (t, r, ρ2, μ2)
def zfl (n len : Nat) (e : zX) : zT := fun ρ μ => match e ρ μ with
  | none => none
  | some (v, μ1) => some (0, 0, ρ, zsa μ1 n (fun k => if k < len then v else μ1 n k))
def zcy (n n' len len' : Nat) (sp dp c : zX) : zT := fun ρ μ => match sp ρ μ with
  | none => none
  | some (a, μ1) => match dp ρ μ1 with
    | none => none
    | some (b, μ2) => match c ρ μ2 with
      | none => none
      | some (q, μ3) => if 0 ≤ a.toInt ∧ 0 ≤ b.toInt ∧ 0 ≤ q.toInt ∧ a.toInt + q.toInt ≤ (len : Int) ∧ b.toInt + q.toInt ≤ (len' : Int) then some (0, 0, ρ, zsa μ3 n' (va_cpy (μ3 n) (μ3 n') a.toInt.toNat b.toInt.toNat q.toInt.toNat)) else none
def zlw (e : zX) (sel : Int32 → zT) : zT := fun ρ μ => match e ρ μ with
  | none => none
  | some (v, μ1) => match sel v ρ μ1 with
    | none => none
    | some (t, r, ρ2, μ2) => if t = 1 then some (0, 0, ρ2, μ2) else some (t, r, ρ2, μ2)
/-- the slot of a reference is no number any more -/
def zlr (i : Nat) (b : zT) : zT := fun ρ μ => b (fun k => if k = i then none else ρ k) μ
/-- ++a[i], and its value -/
def zpi (n len : Nat) (i : zX) : zX := fun ρ μ => match i ρ μ with
  | none => none
  | some (x, μ1) => if 0 ≤ x.toInt ∧ x.toInt < (len : Int) then some (μ1 n x.toInt.toNat + 1, zst μ1 n x.toInt.toNat (μ1 n x.toInt.toNat + 1)) else none
/-! a method out of its body -/
def ze0 : zE := fun _ => none
def zenv : List (Nat × Int32) → zE
  | [] => ze0
  | (k, v) :: l => zup (zenv l) k v
def zfi (b : zT) (ρ : zE) (μ : zM) : Option (Int32 × zM) := match b ρ μ with
  | none => none
  | some (t, v, _, μ1) => if t = 3 then some (v, μ1) else none
def zfz (b : zT) (ρ : zE) (μ : zM) : Option (Int32 × zM) := match b ρ μ with
  | none => none
  | some (t, v, _, μ1) => if t = 3 ∧ (v = 0 ∨ v = 1) then some (v, μ1) else none
def zfo0 (b : zT) (ρ : zE) (μ : zM) : Option (Int32 × zM) := match b ρ μ with
  | none => none
  | some (t, _, _, μ1) => if t = 0 ∨ t = 3 then some (0, μ1) else none
