/-! reading a read, a block -/
/-- the number behind a kind: with the state behind it -/
def mGe (by_ : Nat → Nat) (ref : Nat → Nat) (at_ k : Nat) (s : mDe) : Nat × mDe :=
  if k = 0 then ((mGn by_ 1 s).1 + 1, (mGn by_ 1 s).2) else if k = 3 then ((mGn by_ 2 s).1 + 1, (mGn by_ 2 s).2) else
  if k = 1 then
    (if mBit s (47 + 2 * ref at_) = 0 then (if 0 < ref at_ then 0 else 1, mGet by_ s (47 + 2 * ref at_))
     else (if 1 + mBit (mGet by_ s (47 + 2 * ref at_)) (47 + 2 * ref at_ + 1) < ref at_ then 1 + mBit (mGet by_ s (47 + 2 * ref at_)) (47 + 2 * ref at_ + 1) else 1 + mBit (mGet by_ s (47 + 2 * ref at_)) (47 + 2 * ref at_ + 1) + 1,
       mGet by_ (mGet by_ s (47 + 2 * ref at_)) (47 + 2 * ref at_ + 1)))
  else (2 * mBit s 55 + mBit (mGet by_ s 55) (56 + mBit s 55), mGet by_ (mGet by_ s 55) (56 + mBit s 55))
/-- whether an edit may come behind the edits es of a read at pos -/
def mMay (ref : Nat → Nat) (len pos : Nat) (es : List (Nat × Nat)) (e : Nat × Nat) : Bool :=
  (if e.1 = 0 ∨ e.1 = 3 then decide (1 ≤ e.2 ∧ pos + mPs es + e.2 ≤ len) else if e.1 = 1 then decide (e.2 < 4 ∧ pos + mPs es < len ∧ ref (pos + mPs es) ≠ e.2) else decide (e.1 = 2 ∧ e.2 < 4)) && decide (mBc es + mCnt e ≤ 20 ∧ es.length < 12)
/-- the edits of a read that is read: none where its bytes are refused -/
def mTk (by_ : Nat → Nat) (ref : Nat → Nat) (len pos : Nat) : Nat → List (Nat × Nat) → Nat → mDe → Option (List (Nat × Nat) × mDe)
  | 0, _, _, _ => none
  | n + 1, es, last, s =>
    if (mGkd by_ last s).1 = 4 then (if 0 < mBc es then some (es, (mGkd by_ last s).2) else none) else
    if ((mGkd by_ last s).1 = 0 ∨ (mGkd by_ last s).1 = 3) ∧ (mGkd by_ last s).1 = last then none else
    if (mGkd by_ last s).1 = 1 ∧ len ≤ pos + mPs es then none else
    if mMay ref len pos es ((mGkd by_ last s).1, (mGe by_ ref (pos + mPs es) (mGkd by_ last s).1 (mGkd by_ last s).2).1) = true then
      mTk by_ ref len pos n (es ++ [((mGkd by_ last s).1, (mGe by_ ref (pos + mPs es) (mGkd by_ last s).1 (mGkd by_ last s).2).1)]) (mGkd by_ last s).1 (mGe by_ ref (pos + mPs es) (mGkd by_ last s).1 (mGkd by_ last s).2).2
    else none
def mTr (by_ : Nat → Nat) (ref : Nat → Nat) (len b : Nat) (s : mDe) : Option (mRd × mDe) :=
  if len < b + (mGn by_ 0 s).1 then none else
  match mTk by_ ref len (b + (mGn by_ 0 s).1) 13 [] 4 (mGn by_ 0 s).2 with
  | none => none
  | some (es, t) => some ((b + (mGn by_ 0 s).1, es), t)
def mTs (by_ : Nat → Nat) (ref : Nat → Nat) (len : Nat) : Nat → Nat → mDe → Option (List mRd)
  | 0, _, _ => some []
  | n + 1, b, s =>
    match mTr by_ ref len b s with
    | none => none
    | some (r, t) => match mTs by_ ref len n r.1 t with
      | none => none
      | some l => some (r :: l)
/-- the bytes of a row of m, and 0 behind them -/
def mBy (arch : Nat → Nat) (b m : Nat) : Nat → Nat := fun j => if j < m then arch (b + j) else 0
def mD0 (by_ : Nat → Nat) : mDe := (((by_ 0 * 256 + by_ 1) * 256 + by_ 2) * 256 + by_ 3, 4294967295, fun _ => 1024, 4)
/-- whether two rows agree -/
def mSame (f g : Nat → Nat) : Nat → Bool
  | 0 => true
  | n + 1 => mSame f g n && decide (f n = g n)
/-- the reads of the block that begins at b, if it is sound -/
def mTake (ref : Nat → Nat) (len : Nat) (arch : Nat → Nat) (size b : Nat) : Option (List mRd) :=
  if size ≤ b + 4 then none else if arch b < 1 ∨ 3 < arch b ∨ size < b + 5 + arch (b + 2) then none else
  match mTs (mBy arch (b + 3) (arch (b + 2))) ref len (arch b) (arch (b + 1)) (mD0 (mBy arch (b + 3) (arch (b + 2)))) with
  | none => none
  | some rs => if mBl ref rs = 5 + arch (b + 2) ∧ mSame (mBlk ref rs) (fun j => arch (b + j)) (5 + arch (b + 2)) = true then some rs else none
