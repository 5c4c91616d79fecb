/-! THE COMMON VALUE: Mu, the reference's fields and arrays without its scratch (steps, path, onPath, code); what each call does to it -/
abbrev Mu : Type := (Nat → Nat → Int32) × Int64
def ms (m : Mu) (k j : Nat) (v : Int32) : Mu := (fun k' j' => if k' = k then (if j' = j then v else m.1 k' j') else m.1 k' j', m.2)
theorem ms_eq (m : Mu) (k j : Nat) (v : Int32) : (ms m k j v).1 k j = v := by simp [ms]
theorem ms_k (m : Mu) {k j k' : Nat} (v : Int32) (j' : Nat) (h : k' ≠ k) : (ms m k j v).1 k' j' = m.1 k' j' := by simp [ms, h]
theorem ms_j (m : Mu) {k j j' : Nat} (v : Int32) (k' : Nat) (h : j' ≠ j) : (ms m k j v).1 k' j' = m.1 k' j' := by simp [ms, h]
theorem ms_2 (m : Mu) (k j : Nat) (v : Int32) : (ms m k j v).2 = m.2 := rfl
/-- stations, calls -/
def mS (m : Mu) : Nat := (m.1 30 0).toNatClampNeg
def mC (m : Mu) : Nat := (m.1 30 10).toNatClampNeg
def mApart (m : Mu) (a b : Nat) : Int32 := if m.1 41 a < m.1 41 b then m.1 41 b - m.1 41 a else m.1 41 a - m.1 41 b
def mFar (m : Mu) (a b : Nat) : Bool := decide (m.1 42 a < mApart m a b) || decide (m.1 42 b < mApart m a b)
def mAdj (m : Mu) (a b : Nat) : Bool := decide (a ≠ b) && (decide (m.1 43 a = 0) && (decide (m.1 43 b = 0) && !mFar m a b))
def mWay (m : Mu) (f t : Int32) : List Nat := gWay (mAdj m) (mS m) t.toNatClampNeg f.toNatClampNeg
def mBits (m : Mu) (f t : Int32) : Int32 := gBits (mWay m f t)
def mRank (m : Mu) (c : Nat) : Int32 := wghtF (m.1 53 c)
def mWait (m : Mu) (c : Nat) : Bool := decide (m.1 55 c = 119)
def mSpk (m : Mu) (c : Nat) : Bool := decide (m.1 55 c = 115)
def mBreak (m : Mu) (c o : Nat) : Bool := decide (1 < mRank m c) && decide (mRank m o < mRank m c)
def mFirst (m : Mu) (c : Nat) : Nat := if 1 < mRank m c then 0 else 1
/-- who speaks on a channel; to whom a station belongs -/
def mOn (m : Mu) (h : Nat) : Option Nat := (List.range (mC m)).find? (fun c => mSpk m c && decide (m.1 56 c = nI h))
def mHold (m : Mu) (s : Int32) : Option Nat := (List.range (mC m)).find? (fun c => mSpk m c && decide ((m.1 57 c >>> (s &&& 31)) &&& 1 = 1))
def mLog (m : Mu) (kind number : Int32) : Mu :=
  let k := ((m.1 30 27) - (m.1 30 27) / 60 * 60).toNatClampNeg
  ms (ms (ms (ms m 68 k (m.1 30 26)) 69 k kind) 70 k number) 30 27 (m.1 30 27 + 1)
def mInt (m : Mu) (c : Nat) : Mu := mLog (ms (ms m 55 c 119) 59 c (m.1 59 c + 1)) 105 (nI c)
def mHav (m : Mu) (c : Nat) (r : Option Nat) : Bool := match r with
  | none => true
  | some o => mBreak m c o
def mSh (m : Mu) (v : Int32) (r : Option Nat) : Bool := match r with
  | none => false
  | some o => decide (m.1 57 o &&& v ≠ 0)
/-- can a call begin, over the way with the bits v -/
def mTak (m : Mu) (c : Nat) (v : Int32) : Bool := (mHav m c (mOn m 0) || !mSh m v (mOn m 0)) && ((mHav m c (mOn m 1) || !mSh m v (mOn m 1)) && ((mHav m c (mOn m 2) || !mSh m v (mOn m 2)) && ((mHav m c (mOn m 0) && decide (mFirst m c = 0)) || (mHav m c (mOn m 1) || mHav m c (mOn m 2)))))
def mCan (m : Mu) (c : Nat) : Bool := decide (mWay m (m.1 51 c) (m.1 52 c) ≠ []) && mTak m c (mBits m (m.1 51 c) (m.1 52 c))
/-- the free channel, 3 for none -/
def mFree (m : Mu) (c : Nat) : Nat := if mFirst m c = 0 ∧ mOn m 0 = none then 0 else if mOn m 1 = none then 1 else if mOn m 2 = none then 2 else 3
def mWk (m : Mu) (w : Nat) (r : Option Nat) : Nat := match r with
  | none => w
  | some o => if mRank m o < mRank m w ∨ (mRank m o = mRank m w ∧ m.1 58 w < m.1 58 o) then o else w
def mWeak (m : Mu) (c : Nat) : Nat := if mFirst m c = 0 then mWk m (mWk m ((mOn m 0).getD 0) (mOn m 1)) (mOn m 2) else mWk m ((mOn m 1).getD 0) (mOn m 2)
def mIntOn (v : Int32) (h : Nat) (m : Mu) : Mu := match mOn m h with
  | none => m
  | some o => if m.1 57 o &&& v ≠ 0 then mInt m o else m
def mClear (m : Mu) (v : Int32) : Mu := mIntOn v 2 (mIntOn v 1 (mIntOn v 0 m))
def mRoom (m : Mu) (c : Nat) : Mu := if mFree m c = 3 then mInt m (mWeak m c) else m
def mFirstB (m : Mu) (c : Nat) : Mu := if m.1 58 c = 0 then ms (ms m 30 22 (m.1 30 22 + 1)) 30 23 (m.1 30 23 + (m.1 30 26 - m.1 60 c)) else m
def mTake (m : Mu) (c : Nat) (v : Int32) : Mu :=
  let a := ms (ms m 56 c (nI (mFree m c))) 57 c v
  let b := mFirstB a c
  let d := ms b 30 21 (b.1 30 21 + 1)
  let e := ms (ms (ms d 58 c (d.1 30 21)) 55 c 115) 45 (d.1 51 c).toNatClampNeg (d.1 30 26)
  mLog e 98 (nI c)
def mBegin (m : Mu) (c : Nat) : Mu :=
  let v := mBits m (m.1 51 c) (m.1 52 c)
  mTake (mRoom (mClear m v) c) c v
/-- the turn with the number q: rank 3 - q / 150, call q % 150 -/
def mTurn (q : Nat) (m : Mu) : Mu := if q % 150 < mC m ∧ mWait m (q % 150) = true ∧ mRank m (q % 150) = nI (3 - q / 150) ∧ mCan m (q % 150) = true then mBegin m (q % 150) else m
def mTurns : Nat → Mu → Mu
  | 0, m => m
  | f + 1, m => mTurns f (mTurn (600 - (f + 1)) m)
def mSpeak (m : Mu) : Mu := mTurns 600 m
def mMany (m : Mu) (st : Int32) : Nat := (List.range (mC m)).countP (fun c => decide (m.1 55 c = st))
def mFull (m : Mu) : Bool := decide (mC m = 150) || decide (mMany m 119 + mMany m 115 = 24)
def mPlace (m : Mu) (f t u k : Int32) : Mu :=
  let c := mC m
  let a := ms (ms (ms (ms (ms (ms m 51 c f) 52 c t) 53 c u) 54 c k) 55 c 119) 60 c (m.1 30 26)
  let b := mLog a 112 (nI c)
  ms b 30 10 (b.1 30 10 + 1)
