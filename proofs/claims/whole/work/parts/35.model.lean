/-! THE REFERENCE: its object and its arrays as one value -/
theorem upd_bI (f : Nat → Bool) (r : Nat) (x : Bool) : upd (fun j => bI (f j)) r (bI x) = fun j => bI (va_up f r x j) := by
  funext j
  unfold upd va_up
  by_cases h : j = r <;> simp [h]
abbrev MB1 : Type := (Nat → Nat) × (Nat → Nat) × (Nat → Nat) × (Nat → Nat) × Nat × Nat
abbrev MB2 : Type := (Nat → Nat) × Nat × (Nat → Nat) × Int32
abbrev MB3 : Type := (Nat → Nat) × Bool × (Nat → Nat) × (Nat → Nat)
abbrev MB4 : Type := Nat × (Nat → Nat) × (Nat → Nat) × Nat
abbrev MB5 : Type := (Nat → Int32) × (Nat → Nat) × (Nat → Int64)
abbrev MP : Type := Int32 × Nat × Nat × Int32 × Nat × (Nat → Nat)
abbrev MT : Type := (Nat → Nat) × (Nat → Nat) × Nat × Nat × Nat × Nat × (Nat → Nat)
abbrev MO : Type := (Nat → Nat) × (Nat → Bool) × (Nat → Nat) × (Nat → Nat) × Nat × (Nat → Nat) × Nat × Nat × (Nat → Int64)
abbrev MB : Type := MB1 × MB2 × MB3 × MB4 × MB5
abbrev Mv : Type := MB × MP × MT × MO
abbrev mMay (m : Mv) : (Nat → Nat) := m.1.1.1
abbrev mChangeAt (m : Mv) : (Nat → Nat) := m.1.1.2.1
abbrev mChangeWas (m : Mv) : (Nat → Nat) := m.1.1.2.2.1
abbrev mChangeIs (m : Mv) : (Nat → Nat) := m.1.1.2.2.2.1
abbrev mKeptMany (m : Mv) : Nat := m.1.1.2.2.2.2.1
abbrev mDone (m : Mv) : Nat := m.1.1.2.2.2.2.2
abbrev mTape (m : Mv) : (Nat → Nat) := m.1.2.1.1
abbrev mTapeMany (m : Mv) : Nat := m.1.2.1.2.1
abbrev mText (m : Mv) : (Nat → Nat) := m.1.2.1.2.2.1
abbrev mTextMany (m : Mv) : Int32 := m.1.2.1.2.2.2
abbrev mBase (m : Mv) : Int32 := m.2.1.1
abbrev mAt (m : Mv) : Nat := m.2.1.2.1
abbrev mEnds (m : Mv) : Nat := m.2.1.2.2.1
abbrev mFault (m : Mv) : Int32 := m.2.1.2.2.2.1
abbrev mOpened (m : Mv) : Nat := m.2.1.2.2.2.2.1
abbrev mNames (m : Mv) : (Nat → Nat) := m.2.1.2.2.2.2.2
abbrev mWax (m : Mv) : (Nat → Nat) := m.2.2.1.1
abbrev mIsDark (m : Mv) : (Nat → Nat) := m.2.2.1.2.1
abbrev mHourThen (m : Mv) : Nat := m.2.2.1.2.2.1
abbrev mFell (m : Mv) : Nat := m.2.2.1.2.2.2.1
abbrev mGotBack (m : Mv) : Nat := m.2.2.1.2.2.2.2.1
abbrev mBurnt (m : Mv) : Nat := m.2.2.1.2.2.2.2.2.1
abbrev mTurns (m : Mv) : (Nat → Nat) := m.2.2.1.2.2.2.2.2.2
abbrev mSteps (m : Mv) : (Nat → Nat) := m.2.2.2.1
abbrev mClosed (m : Mv) : (Nat → Bool) := m.2.2.2.2.1
abbrev mWalked (m : Mv) : (Nat → Nat) := m.2.2.2.2.2.1
abbrev mBestWalk (m : Mv) : (Nat → Nat) := m.2.2.2.2.2.2.1
abbrev mFewestDark (m : Mv) : Nat := m.2.2.2.2.2.2.2.1
abbrev mDid (m : Mv) : (Nat → Nat) := m.2.2.2.2.2.2.2.2.1
abbrev mLedNow (m : Mv) : (Nat → Nat) := m.1.2.2.1.1
abbrev mIsKept (m : Mv) : Bool := m.1.2.2.1.2.1
abbrev mImageMay (m : Mv) : (Nat → Nat) := m.1.2.2.1.2.2.1
abbrev mImageLed (m : Mv) : (Nat → Nat) := m.1.2.2.1.2.2.2
abbrev mBodies (m : Mv) : Nat := m.1.2.2.2.1.1
abbrev mBodyKind (m : Mv) : (Nat → Nat) := m.1.2.2.2.1.2.1
abbrev mTrace (m : Mv) : (Nat → Nat) := m.1.2.2.2.1.2.2.1
abbrev mRan (m : Mv) : Nat := m.1.2.2.2.1.2.2.2
abbrev mOwnKind (m : Mv) : Nat := m.2.2.2.2.2.2.2.2.2.1
abbrev mOwnNumber (m : Mv) : Nat := m.2.2.2.2.2.2.2.2.2.2.1
abbrev mShelf (m : Mv) : (Nat → Int32) := m.1.2.2.2.2.1
abbrev mMany (m : Mv) : (Nat → Nat) := m.1.2.2.2.2.2.1
abbrev mItems (m : Mv) : (Nat → Int64) := m.1.2.2.2.2.2.2
abbrev mCarried (m : Mv) : (Nat → Int64) := m.2.2.2.2.2.2.2.2.2.2.2
abbrev sMay (m : Mv) (x : (Nat → Nat)) : Mv := (((x, m.1.1.2.1, m.1.1.2.2.1, m.1.1.2.2.2.1, m.1.1.2.2.2.2.1, m.1.1.2.2.2.2.2), m.1.2.1, m.1.2.2.1, m.1.2.2.2.1, m.1.2.2.2.2), m.2)
abbrev sChangeAt (m : Mv) (x : (Nat → Nat)) : Mv := (((m.1.1.1, x, m.1.1.2.2.1, m.1.1.2.2.2.1, m.1.1.2.2.2.2.1, m.1.1.2.2.2.2.2), m.1.2.1, m.1.2.2.1, m.1.2.2.2.1, m.1.2.2.2.2), m.2)
abbrev sChangeWas (m : Mv) (x : (Nat → Nat)) : Mv := (((m.1.1.1, m.1.1.2.1, x, m.1.1.2.2.2.1, m.1.1.2.2.2.2.1, m.1.1.2.2.2.2.2), m.1.2.1, m.1.2.2.1, m.1.2.2.2.1, m.1.2.2.2.2), m.2)
abbrev sChangeIs (m : Mv) (x : (Nat → Nat)) : Mv := (((m.1.1.1, m.1.1.2.1, m.1.1.2.2.1, x, m.1.1.2.2.2.2.1, m.1.1.2.2.2.2.2), m.1.2.1, m.1.2.2.1, m.1.2.2.2.1, m.1.2.2.2.2), m.2)
abbrev sKeptMany (m : Mv) (x : Nat) : Mv := (((m.1.1.1, m.1.1.2.1, m.1.1.2.2.1, m.1.1.2.2.2.1, x, m.1.1.2.2.2.2.2), m.1.2.1, m.1.2.2.1, m.1.2.2.2.1, m.1.2.2.2.2), m.2)
abbrev sDone (m : Mv) (x : Nat) : Mv := (((m.1.1.1, m.1.1.2.1, m.1.1.2.2.1, m.1.1.2.2.2.1, m.1.1.2.2.2.2.1, x), m.1.2.1, m.1.2.2.1, m.1.2.2.2.1, m.1.2.2.2.2), m.2)
abbrev sTape (m : Mv) (x : (Nat → Nat)) : Mv := ((m.1.1, (x, m.1.2.1.2.1, m.1.2.1.2.2.1, m.1.2.1.2.2.2), m.1.2.2.1, m.1.2.2.2.1, m.1.2.2.2.2), m.2)
abbrev sTapeMany (m : Mv) (x : Nat) : Mv := ((m.1.1, (m.1.2.1.1, x, m.1.2.1.2.2.1, m.1.2.1.2.2.2), m.1.2.2.1, m.1.2.2.2.1, m.1.2.2.2.2), m.2)
abbrev sText (m : Mv) (x : (Nat → Nat)) : Mv := ((m.1.1, (m.1.2.1.1, m.1.2.1.2.1, x, m.1.2.1.2.2.2), m.1.2.2.1, m.1.2.2.2.1, m.1.2.2.2.2), m.2)
abbrev sTextMany (m : Mv) (x : Int32) : Mv := ((m.1.1, (m.1.2.1.1, m.1.2.1.2.1, m.1.2.1.2.2.1, x), m.1.2.2.1, m.1.2.2.2.1, m.1.2.2.2.2), m.2)
abbrev sBase (m : Mv) (x : Int32) : Mv := (m.1, ((x, m.2.1.2.1, m.2.1.2.2.1, m.2.1.2.2.2.1, m.2.1.2.2.2.2.1, m.2.1.2.2.2.2.2), m.2.2.1, m.2.2.2))
abbrev sAt (m : Mv) (x : Nat) : Mv := (m.1, ((m.2.1.1, x, m.2.1.2.2.1, m.2.1.2.2.2.1, m.2.1.2.2.2.2.1, m.2.1.2.2.2.2.2), m.2.2.1, m.2.2.2))
abbrev sEnds (m : Mv) (x : Nat) : Mv := (m.1, ((m.2.1.1, m.2.1.2.1, x, m.2.1.2.2.2.1, m.2.1.2.2.2.2.1, m.2.1.2.2.2.2.2), m.2.2.1, m.2.2.2))
abbrev sFault (m : Mv) (x : Int32) : Mv := (m.1, ((m.2.1.1, m.2.1.2.1, m.2.1.2.2.1, x, m.2.1.2.2.2.2.1, m.2.1.2.2.2.2.2), m.2.2.1, m.2.2.2))
abbrev sOpened (m : Mv) (x : Nat) : Mv := (m.1, ((m.2.1.1, m.2.1.2.1, m.2.1.2.2.1, m.2.1.2.2.2.1, x, m.2.1.2.2.2.2.2), m.2.2.1, m.2.2.2))
abbrev sNames (m : Mv) (x : (Nat → Nat)) : Mv := (m.1, ((m.2.1.1, m.2.1.2.1, m.2.1.2.2.1, m.2.1.2.2.2.1, m.2.1.2.2.2.2.1, x), m.2.2.1, m.2.2.2))
abbrev sWax (m : Mv) (x : (Nat → Nat)) : Mv := (m.1, (m.2.1, (x, m.2.2.1.2.1, m.2.2.1.2.2.1, m.2.2.1.2.2.2.1, m.2.2.1.2.2.2.2.1, m.2.2.1.2.2.2.2.2.1, m.2.2.1.2.2.2.2.2.2), m.2.2.2))
abbrev sIsDark (m : Mv) (x : (Nat → Nat)) : Mv := (m.1, (m.2.1, (m.2.2.1.1, x, m.2.2.1.2.2.1, m.2.2.1.2.2.2.1, m.2.2.1.2.2.2.2.1, m.2.2.1.2.2.2.2.2.1, m.2.2.1.2.2.2.2.2.2), m.2.2.2))
abbrev sHourThen (m : Mv) (x : Nat) : Mv := (m.1, (m.2.1, (m.2.2.1.1, m.2.2.1.2.1, x, m.2.2.1.2.2.2.1, m.2.2.1.2.2.2.2.1, m.2.2.1.2.2.2.2.2.1, m.2.2.1.2.2.2.2.2.2), m.2.2.2))
abbrev sFell (m : Mv) (x : Nat) : Mv := (m.1, (m.2.1, (m.2.2.1.1, m.2.2.1.2.1, m.2.2.1.2.2.1, x, m.2.2.1.2.2.2.2.1, m.2.2.1.2.2.2.2.2.1, m.2.2.1.2.2.2.2.2.2), m.2.2.2))
abbrev sGotBack (m : Mv) (x : Nat) : Mv := (m.1, (m.2.1, (m.2.2.1.1, m.2.2.1.2.1, m.2.2.1.2.2.1, m.2.2.1.2.2.2.1, x, m.2.2.1.2.2.2.2.2.1, m.2.2.1.2.2.2.2.2.2), m.2.2.2))
abbrev sBurnt (m : Mv) (x : Nat) : Mv := (m.1, (m.2.1, (m.2.2.1.1, m.2.2.1.2.1, m.2.2.1.2.2.1, m.2.2.1.2.2.2.1, m.2.2.1.2.2.2.2.1, x, m.2.2.1.2.2.2.2.2.2), m.2.2.2))
abbrev sTurns (m : Mv) (x : (Nat → Nat)) : Mv := (m.1, (m.2.1, (m.2.2.1.1, m.2.2.1.2.1, m.2.2.1.2.2.1, m.2.2.1.2.2.2.1, m.2.2.1.2.2.2.2.1, m.2.2.1.2.2.2.2.2.1, x), m.2.2.2))
abbrev sSteps (m : Mv) (x : (Nat → Nat)) : Mv := (m.1, (m.2.1, m.2.2.1, (x, m.2.2.2.2.1, m.2.2.2.2.2.1, m.2.2.2.2.2.2.1, m.2.2.2.2.2.2.2.1, m.2.2.2.2.2.2.2.2.1, m.2.2.2.2.2.2.2.2.2.1, m.2.2.2.2.2.2.2.2.2.2.1, m.2.2.2.2.2.2.2.2.2.2.2)))
abbrev sClosed (m : Mv) (x : (Nat → Bool)) : Mv := (m.1, (m.2.1, m.2.2.1, (m.2.2.2.1, x, m.2.2.2.2.2.1, m.2.2.2.2.2.2.1, m.2.2.2.2.2.2.2.1, m.2.2.2.2.2.2.2.2.1, m.2.2.2.2.2.2.2.2.2.1, m.2.2.2.2.2.2.2.2.2.2.1, m.2.2.2.2.2.2.2.2.2.2.2)))
abbrev sWalked (m : Mv) (x : (Nat → Nat)) : Mv := (m.1, (m.2.1, m.2.2.1, (m.2.2.2.1, m.2.2.2.2.1, x, m.2.2.2.2.2.2.1, m.2.2.2.2.2.2.2.1, m.2.2.2.2.2.2.2.2.1, m.2.2.2.2.2.2.2.2.2.1, m.2.2.2.2.2.2.2.2.2.2.1, m.2.2.2.2.2.2.2.2.2.2.2)))
abbrev sBestWalk (m : Mv) (x : (Nat → Nat)) : Mv := (m.1, (m.2.1, m.2.2.1, (m.2.2.2.1, m.2.2.2.2.1, m.2.2.2.2.2.1, x, m.2.2.2.2.2.2.2.1, m.2.2.2.2.2.2.2.2.1, m.2.2.2.2.2.2.2.2.2.1, m.2.2.2.2.2.2.2.2.2.2.1, m.2.2.2.2.2.2.2.2.2.2.2)))
abbrev sFewestDark (m : Mv) (x : Nat) : Mv := (m.1, (m.2.1, m.2.2.1, (m.2.2.2.1, m.2.2.2.2.1, m.2.2.2.2.2.1, m.2.2.2.2.2.2.1, x, m.2.2.2.2.2.2.2.2.1, m.2.2.2.2.2.2.2.2.2.1, m.2.2.2.2.2.2.2.2.2.2.1, m.2.2.2.2.2.2.2.2.2.2.2)))
abbrev sDid (m : Mv) (x : (Nat → Nat)) : Mv := (m.1, (m.2.1, m.2.2.1, (m.2.2.2.1, m.2.2.2.2.1, m.2.2.2.2.2.1, m.2.2.2.2.2.2.1, m.2.2.2.2.2.2.2.1, x, m.2.2.2.2.2.2.2.2.2.1, m.2.2.2.2.2.2.2.2.2.2.1, m.2.2.2.2.2.2.2.2.2.2.2)))
abbrev sLedNow (m : Mv) (x : (Nat → Nat)) : Mv := ((m.1.1, m.1.2.1, (x, m.1.2.2.1.2.1, m.1.2.2.1.2.2.1, m.1.2.2.1.2.2.2), m.1.2.2.2.1, m.1.2.2.2.2), m.2)
abbrev sIsKept (m : Mv) (x : Bool) : Mv := ((m.1.1, m.1.2.1, (m.1.2.2.1.1, x, m.1.2.2.1.2.2.1, m.1.2.2.1.2.2.2), m.1.2.2.2.1, m.1.2.2.2.2), m.2)
abbrev sImageMay (m : Mv) (x : (Nat → Nat)) : Mv := ((m.1.1, m.1.2.1, (m.1.2.2.1.1, m.1.2.2.1.2.1, x, m.1.2.2.1.2.2.2), m.1.2.2.2.1, m.1.2.2.2.2), m.2)
abbrev sImageLed (m : Mv) (x : (Nat → Nat)) : Mv := ((m.1.1, m.1.2.1, (m.1.2.2.1.1, m.1.2.2.1.2.1, m.1.2.2.1.2.2.1, x), m.1.2.2.2.1, m.1.2.2.2.2), m.2)
abbrev sBodies (m : Mv) (x : Nat) : Mv := ((m.1.1, m.1.2.1, m.1.2.2.1, (x, m.1.2.2.2.1.2.1, m.1.2.2.2.1.2.2.1, m.1.2.2.2.1.2.2.2), m.1.2.2.2.2), m.2)
abbrev sBodyKind (m : Mv) (x : (Nat → Nat)) : Mv := ((m.1.1, m.1.2.1, m.1.2.2.1, (m.1.2.2.2.1.1, x, m.1.2.2.2.1.2.2.1, m.1.2.2.2.1.2.2.2), m.1.2.2.2.2), m.2)
abbrev sTrace (m : Mv) (x : (Nat → Nat)) : Mv := ((m.1.1, m.1.2.1, m.1.2.2.1, (m.1.2.2.2.1.1, m.1.2.2.2.1.2.1, x, m.1.2.2.2.1.2.2.2), m.1.2.2.2.2), m.2)
abbrev sRan (m : Mv) (x : Nat) : Mv := ((m.1.1, m.1.2.1, m.1.2.2.1, (m.1.2.2.2.1.1, m.1.2.2.2.1.2.1, m.1.2.2.2.1.2.2.1, x), m.1.2.2.2.2), m.2)
abbrev sOwnKind (m : Mv) (x : Nat) : Mv := (m.1, (m.2.1, m.2.2.1, (m.2.2.2.1, m.2.2.2.2.1, m.2.2.2.2.2.1, m.2.2.2.2.2.2.1, m.2.2.2.2.2.2.2.1, m.2.2.2.2.2.2.2.2.1, x, m.2.2.2.2.2.2.2.2.2.2.1, m.2.2.2.2.2.2.2.2.2.2.2)))
abbrev sOwnNumber (m : Mv) (x : Nat) : Mv := (m.1, (m.2.1, m.2.2.1, (m.2.2.2.1, m.2.2.2.2.1, m.2.2.2.2.2.1, m.2.2.2.2.2.2.1, m.2.2.2.2.2.2.2.1, m.2.2.2.2.2.2.2.2.1, m.2.2.2.2.2.2.2.2.2.1, x, m.2.2.2.2.2.2.2.2.2.2.2)))
abbrev sShelf (m : Mv) (x : (Nat → Int32)) : Mv := ((m.1.1, m.1.2.1, m.1.2.2.1, m.1.2.2.2.1, (x, m.1.2.2.2.2.2.1, m.1.2.2.2.2.2.2)), m.2)
abbrev sMany (m : Mv) (x : (Nat → Nat)) : Mv := ((m.1.1, m.1.2.1, m.1.2.2.1, m.1.2.2.2.1, (m.1.2.2.2.2.1, x, m.1.2.2.2.2.2.2)), m.2)
abbrev sItems (m : Mv) (x : (Nat → Int64)) : Mv := ((m.1.1, m.1.2.1, m.1.2.2.1, m.1.2.2.2.1, (m.1.2.2.2.2.1, m.1.2.2.2.2.2.1, x)), m.2)
abbrev sCarried (m : Mv) (x : (Nat → Int64)) : Mv := (m.1, (m.2.1, m.2.2.1, (m.2.2.2.1, m.2.2.2.2.1, m.2.2.2.2.2.1, m.2.2.2.2.2.2.1, m.2.2.2.2.2.2.2.1, m.2.2.2.2.2.2.2.2.1, m.2.2.2.2.2.2.2.2.2.1, m.2.2.2.2.2.2.2.2.2.2.1, x)))
abbrev mobj (G : Cx) (m : Mv) : va_E := .inr (12, [.ref (gB G + 81), .ref (gB G + 82), .ref (gB G + 83), .ref (gB G + 84), .int (nI (mKeptMany m)), .int (nI (mDone m)), .ref (gB G + 85), .int (nI (mTapeMany m)), .ref (gB G + 86), .int (mTextMany m), .int (mBase m), .int (nI (mAt m)), .int (nI (mEnds m)), .int (mFault m), .int (nI (mOpened m)), .ref (gB G + 87), .ref (gB G + 88), .ref (gB G + 89), .int (nI (mHourThen m)), .int (nI (mFell m)), .int (nI (mGotBack m)), .int (nI (mBurnt m)), .ref (gB G + 90), .ref (gB G + 91), .ref (gB G + 92), .ref (gB G + 93), .ref (gB G + 94), .int (nI (mFewestDark m)), .ref (gB G + 95), .ref (gB G + 96), .int (bI (mIsKept m)), .ref (gB G + 97), .ref (gB G + 98), .int (nI (mBodies m)), .ref (gB G + 99), .ref (gB G + 100), .int (nI (mRan m)), .int (nI (mOwnKind m)), .int (nI (mOwnNumber m)), .ref (gB G + 101), .ref (gB G + 102), .ref (gB G + 103), .ref (gB G + 104)])
def mcel (G : Cx) (m : Mv) : Nat → va_E
  | 0 => ints G 147 (mMay m)
  | 1 => ints G 40 (mChangeAt m)
  | 2 => ints G 40 (mChangeWas m)
  | 3 => ints G 40 (mChangeIs m)
  | 4 => ints G 120 (mTape m)
  | 5 => ints G 120 (mText m)
  | 6 => ints G 6 (mNames m)
  | 7 => ints G 36 (mWax m)
  | 8 => ints G 36 (mIsDark m)
  | 9 => ints G 36 (mTurns m)
  | 10 => ints G 36 (mSteps m)
  | 11 => .inl (gc G 2, 36, .inl (fun j => bI (mClosed m j)))
  | 12 => ints G 4 (mWalked m)
  | 13 => ints G 4 (mBestWalk m)
  | 14 => ints G 3 (mDid m)
  | 15 => ints G 5 (mLedNow m)
  | 16 => ints G 147 (mImageMay m)
  | 17 => ints G 5 (mImageLed m)
  | 18 => ints G 50 (mBodyKind m)
  | 19 => ints G 24 (mTrace m)
  | 20 => arr G 6 (mShelf m)
  | 21 => ints G 6 (mMany m)
  | 22 => .inl (gc G 1, 360, .inr (.inl (mItems m)))
  | _ => .inl (gc G 1, 60, .inr (.inl (mCarried m)))
def MS (G : Cx) (h0 h : List va_E) (m : Mv) : Prop := h.length = h0.length ∧ (∀ k, k < 80 → h[k]? = h0[k]?) ∧ h[80]? = some (mobj G m) ∧ ∀ j, j < 24 → h[81 + j]? = some (mcel G m j)
theorem MS.ob {G : Cx} {h0 h : List va_E} {m m2 : Mv} (H : MS G h0 h m) (e : ∀ j, mcel G m2 j = mcel G m j) : MS G h0 (h.set 80 (mobj G m2)) m2 :=
  ⟨by rw [List.length_set]; exact H.1, fun k hk => hs_ne (by omega) (H.2.1 k hk), hs_eq H.2.2.1, fun j hj => hs_ne (by omega) (by rw [e j]; exact H.2.2.2 j hj)⟩
theorem MS.ar {G : Cx} {h0 h : List va_E} {m m2 : Mv} (H : MS G h0 h m) (k : Nat) (hk : k < 24) (eo : mobj G m2 = mobj G m) (e : ∀ j, j < 24 → j ≠ k → mcel G m2 j = mcel G m j) : MS G h0 (h.set (81 + k) (mcel G m2 k)) m2 :=
  ⟨by rw [List.length_set]; exact H.1, fun i hi => hs_ne (by omega) (H.2.1 i hi), hs_ne (by omega) (by rw [eo]; exact H.2.2.1), fun j hj => by
    by_cases ej : j = k
    · subst ej; exact hs_eq (H.2.2.2 j hj)
    · exact hs_ne (by omega) (by rw [e j hj ej]; exact H.2.2.2 j hj)⟩
section MRows
variable {G : Cx} {y : MethodName} {cc : ByteArray} {mL : Nat} {rt : Option FieldType} {R : Room} {Z : List Frame → Array Value → State → State → Prop} {cn sn pc : Nat} {ls : List (Option Value)} {st : List Value} {h h0 : List va_E} {m : Mv}
theorem mg_9 (hm : MS G h0 h m) (ho : y.cls = RX12) (hd : decode cc pc = .ok (.getfield 9, 3)) (kk : AW G y cc mL rt R Z cn sn (pc + 3) ls (.ref (gB G + 81) :: st) h) : AW G y cc mL rt R Z cn sn pc ls (.ref (gB G + 80) :: st) h :=
  gf_X12_9 ho hd hm.2.2.1 kk
theorem ml_may {j x : Nat} (hm : MS G h0 h m) (hd : decode cc pc = .ok (.iaload, 1)) (hj : j < 147) (e : mMay m j = x) (kk : AW G y cc mL rt R Z cn sn (pc + 1) ls (.int (nI x) :: st) h) : AW G y cc mL rt R Z cn sn pc ls (.int (nI j) :: .ref (gB G + 81) :: st) h :=
  b_iald j hd (hm.2.2.2 0 (by decide)) rfl hj (by decide) (by rw [e]; exact kk)
theorem ms_may {j x : Nat} (hm : MS G h0 h m) (hd : decode cc pc = .ok (.iastore, 1)) (hj : j < 147) (kk : ∀ h1, MS G h0 h1 (sMay m (va_up (mMay m) j x)) → AW G y cc mL rt R Z cn sn (pc + 1) ls st h1) : AW G y cc mL rt R Z cn sn pc ls (.int (nI x) :: .int (nI j) :: .ref (gB G + 81) :: st) h := by
  have H := MS.ar (m2 := sMay m (va_up (mMay m) j x)) hm 0 (by decide) rfl (fun i hi q => match i, hi, q with
    | 0, _, q => absurd rfl q
    | 1, _, q => rfl
    | 2, _, q => rfl
    | 3, _, q => rfl
    | 4, _, q => rfl
    | 5, _, q => rfl
    | 6, _, q => rfl
    | 7, _, q => rfl
    | 8, _, q => rfl
    | 9, _, q => rfl
    | 10, _, q => rfl
    | 11, _, q => rfl
    | 12, _, q => rfl
    | 13, _, q => rfl
    | 14, _, q => rfl
    | 15, _, q => rfl
    | 16, _, q => rfl
    | 17, _, q => rfl
    | 18, _, q => rfl
    | 19, _, q => rfl
    | 20, _, q => rfl
    | 21, _, q => rfl
    | 22, _, q => rfl
    | 23, _, q => rfl
    | i + 24, hi, _ => absurd hi (by omega))
  refine b_iast j hd (hm.2.2.2 0 (by decide)) rfl hj (by decide) ?_
  refine a_h (congrArg (fun e => h.set 81 e) ?_) (kk _ H)
  exact congrArg (fun f : Nat → Int32 => (show va_E from .inl (gc G 0, 147, .inl f))) (upd_nI _ _ _)
theorem mg_13 (hm : MS G h0 h m) (ho : y.cls = RX12) (hd : decode cc pc = .ok (.getfield 13, 3)) (kk : AW G y cc mL rt R Z cn sn (pc + 3) ls (.ref (gB G + 82) :: st) h) : AW G y cc mL rt R Z cn sn pc ls (.ref (gB G + 80) :: st) h :=
  gf_X12_13 ho hd hm.2.2.1 kk
theorem ml_changeAt {j x : Nat} (hm : MS G h0 h m) (hd : decode cc pc = .ok (.iaload, 1)) (hj : j < 40) (e : mChangeAt m j = x) (kk : AW G y cc mL rt R Z cn sn (pc + 1) ls (.int (nI x) :: st) h) : AW G y cc mL rt R Z cn sn pc ls (.int (nI j) :: .ref (gB G + 82) :: st) h :=
  b_iald j hd (hm.2.2.2 1 (by decide)) rfl hj (by decide) (by rw [e]; exact kk)
theorem ms_changeAt {j x : Nat} (hm : MS G h0 h m) (hd : decode cc pc = .ok (.iastore, 1)) (hj : j < 40) (kk : ∀ h1, MS G h0 h1 (sChangeAt m (va_up (mChangeAt m) j x)) → AW G y cc mL rt R Z cn sn (pc + 1) ls st h1) : AW G y cc mL rt R Z cn sn pc ls (.int (nI x) :: .int (nI j) :: .ref (gB G + 82) :: st) h := by
  have H := MS.ar (m2 := sChangeAt m (va_up (mChangeAt m) j x)) hm 1 (by decide) rfl (fun i hi q => match i, hi, q with
    | 0, _, q => rfl
    | 1, _, q => absurd rfl q
    | 2, _, q => rfl
    | 3, _, q => rfl
    | 4, _, q => rfl
    | 5, _, q => rfl
    | 6, _, q => rfl
    | 7, _, q => rfl
    | 8, _, q => rfl
    | 9, _, q => rfl
    | 10, _, q => rfl
    | 11, _, q => rfl
    | 12, _, q => rfl
    | 13, _, q => rfl
    | 14, _, q => rfl
    | 15, _, q => rfl
    | 16, _, q => rfl
    | 17, _, q => rfl
    | 18, _, q => rfl
    | 19, _, q => rfl
    | 20, _, q => rfl
    | 21, _, q => rfl
    | 22, _, q => rfl
    | 23, _, q => rfl
    | i + 24, hi, _ => absurd hi (by omega))
  refine b_iast j hd (hm.2.2.2 1 (by decide)) rfl hj (by decide) ?_
  refine a_h (congrArg (fun e => h.set 82 e) ?_) (kk _ H)
  exact congrArg (fun f : Nat → Int32 => (show va_E from .inl (gc G 0, 40, .inl f))) (upd_nI _ _ _)
theorem mg_16 (hm : MS G h0 h m) (ho : y.cls = RX12) (hd : decode cc pc = .ok (.getfield 16, 3)) (kk : AW G y cc mL rt R Z cn sn (pc + 3) ls (.ref (gB G + 83) :: st) h) : AW G y cc mL rt R Z cn sn pc ls (.ref (gB G + 80) :: st) h :=
  gf_X12_16 ho hd hm.2.2.1 kk
theorem ml_changeWas {j x : Nat} (hm : MS G h0 h m) (hd : decode cc pc = .ok (.iaload, 1)) (hj : j < 40) (e : mChangeWas m j = x) (kk : AW G y cc mL rt R Z cn sn (pc + 1) ls (.int (nI x) :: st) h) : AW G y cc mL rt R Z cn sn pc ls (.int (nI j) :: .ref (gB G + 83) :: st) h :=
  b_iald j hd (hm.2.2.2 2 (by decide)) rfl hj (by decide) (by rw [e]; exact kk)
theorem ms_changeWas {j x : Nat} (hm : MS G h0 h m) (hd : decode cc pc = .ok (.iastore, 1)) (hj : j < 40) (kk : ∀ h1, MS G h0 h1 (sChangeWas m (va_up (mChangeWas m) j x)) → AW G y cc mL rt R Z cn sn (pc + 1) ls st h1) : AW G y cc mL rt R Z cn sn pc ls (.int (nI x) :: .int (nI j) :: .ref (gB G + 83) :: st) h := by
  have H := MS.ar (m2 := sChangeWas m (va_up (mChangeWas m) j x)) hm 2 (by decide) rfl (fun i hi q => match i, hi, q with
    | 0, _, q => rfl
    | 1, _, q => rfl
    | 2, _, q => absurd rfl q
    | 3, _, q => rfl
    | 4, _, q => rfl
    | 5, _, q => rfl
    | 6, _, q => rfl
    | 7, _, q => rfl
    | 8, _, q => rfl
    | 9, _, q => rfl
    | 10, _, q => rfl
    | 11, _, q => rfl
    | 12, _, q => rfl
    | 13, _, q => rfl
    | 14, _, q => rfl
    | 15, _, q => rfl
    | 16, _, q => rfl
    | 17, _, q => rfl
    | 18, _, q => rfl
    | 19, _, q => rfl
    | 20, _, q => rfl
    | 21, _, q => rfl
    | 22, _, q => rfl
    | 23, _, q => rfl
    | i + 24, hi, _ => absurd hi (by omega))
  refine b_iast j hd (hm.2.2.2 2 (by decide)) rfl hj (by decide) ?_
  refine a_h (congrArg (fun e => h.set 83 e) ?_) (kk _ H)
  exact congrArg (fun f : Nat → Int32 => (show va_E from .inl (gc G 0, 40, .inl f))) (upd_nI _ _ _)
theorem mg_19 (hm : MS G h0 h m) (ho : y.cls = RX12) (hd : decode cc pc = .ok (.getfield 19, 3)) (kk : AW G y cc mL rt R Z cn sn (pc + 3) ls (.ref (gB G + 84) :: st) h) : AW G y cc mL rt R Z cn sn pc ls (.ref (gB G + 80) :: st) h :=
  gf_X12_19 ho hd hm.2.2.1 kk
theorem ml_changeIs {j x : Nat} (hm : MS G h0 h m) (hd : decode cc pc = .ok (.iaload, 1)) (hj : j < 40) (e : mChangeIs m j = x) (kk : AW G y cc mL rt R Z cn sn (pc + 1) ls (.int (nI x) :: st) h) : AW G y cc mL rt R Z cn sn pc ls (.int (nI j) :: .ref (gB G + 84) :: st) h :=
  b_iald j hd (hm.2.2.2 3 (by decide)) rfl hj (by decide) (by rw [e]; exact kk)
theorem ms_changeIs {j x : Nat} (hm : MS G h0 h m) (hd : decode cc pc = .ok (.iastore, 1)) (hj : j < 40) (kk : ∀ h1, MS G h0 h1 (sChangeIs m (va_up (mChangeIs m) j x)) → AW G y cc mL rt R Z cn sn (pc + 1) ls st h1) : AW G y cc mL rt R Z cn sn pc ls (.int (nI x) :: .int (nI j) :: .ref (gB G + 84) :: st) h := by
  have H := MS.ar (m2 := sChangeIs m (va_up (mChangeIs m) j x)) hm 3 (by decide) rfl (fun i hi q => match i, hi, q with
    | 0, _, q => rfl
    | 1, _, q => rfl
    | 2, _, q => rfl
    | 3, _, q => absurd rfl q
    | 4, _, q => rfl
    | 5, _, q => rfl
    | 6, _, q => rfl
    | 7, _, q => rfl
    | 8, _, q => rfl
    | 9, _, q => rfl
    | 10, _, q => rfl
    | 11, _, q => rfl
    | 12, _, q => rfl
    | 13, _, q => rfl
    | 14, _, q => rfl
    | 15, _, q => rfl
    | 16, _, q => rfl
    | 17, _, q => rfl
    | 18, _, q => rfl
    | 19, _, q => rfl
    | 20, _, q => rfl
    | 21, _, q => rfl
    | 22, _, q => rfl
    | 23, _, q => rfl
    | i + 24, hi, _ => absurd hi (by omega))
  refine b_iast j hd (hm.2.2.2 3 (by decide)) rfl hj (by decide) ?_
  refine a_h (congrArg (fun e => h.set 84 e) ?_) (kk _ H)
  exact congrArg (fun f : Nat → Int32 => (show va_E from .inl (gc G 0, 40, .inl f))) (upd_nI _ _ _)
theorem mg_91 {x : Nat} (hm : MS G h0 h m) (ho : y.cls = RX12) (hd : decode cc pc = .ok (.getfield 91, 3)) (e : mKeptMany m = x) (kk : AW G y cc mL rt R Z cn sn (pc + 3) ls (.int (nI (x)) :: st) h) : AW G y cc mL rt R Z cn sn pc ls (.ref (gB G + 80) :: st) h :=
  gf_X12_91 ho hd hm.2.2.1 (by rw [e]; exact kk)
theorem mp_91 {x : Nat} (hm : MS G h0 h m) (ho : y.cls = RX12) (hd : decode cc pc = .ok (.putfield 91, 3)) (kk : ∀ h1, MS G h0 h1 (sKeptMany m x) → AW G y cc mL rt R Z cn sn (pc + 3) ls st h1) : AW G y cc mL rt R Z cn sn pc ls (.int (nI (x)) :: .ref (gB G + 80) :: st) h :=
  pf_X12_91 ho hd hm.2.2.1 (kk _ (MS.ob (m2 := sKeptMany m x) hm (fun _ => rfl)))
theorem mg_88 {x : Nat} (hm : MS G h0 h m) (ho : y.cls = RX12) (hd : decode cc pc = .ok (.getfield 88, 3)) (e : mDone m = x) (kk : AW G y cc mL rt R Z cn sn (pc + 3) ls (.int (nI (x)) :: st) h) : AW G y cc mL rt R Z cn sn pc ls (.ref (gB G + 80) :: st) h :=
  gf_X12_88 ho hd hm.2.2.1 (by rw [e]; exact kk)
theorem mp_88 {x : Nat} (hm : MS G h0 h m) (ho : y.cls = RX12) (hd : decode cc pc = .ok (.putfield 88, 3)) (kk : ∀ h1, MS G h0 h1 (sDone m x) → AW G y cc mL rt R Z cn sn (pc + 3) ls st h1) : AW G y cc mL rt R Z cn sn pc ls (.int (nI (x)) :: .ref (gB G + 80) :: st) h :=
  pf_X12_88 ho hd hm.2.2.1 (kk _ (MS.ob (m2 := sDone m x) hm (fun _ => rfl)))
theorem mg_22 (hm : MS G h0 h m) (ho : y.cls = RX12) (hd : decode cc pc = .ok (.getfield 22, 3)) (kk : AW G y cc mL rt R Z cn sn (pc + 3) ls (.ref (gB G + 85) :: st) h) : AW G y cc mL rt R Z cn sn pc ls (.ref (gB G + 80) :: st) h :=
  gf_X12_22 ho hd hm.2.2.1 kk
theorem ml_tape {j x : Nat} (hm : MS G h0 h m) (hd : decode cc pc = .ok (.iaload, 1)) (hj : j < 120) (e : mTape m j = x) (kk : AW G y cc mL rt R Z cn sn (pc + 1) ls (.int (nI x) :: st) h) : AW G y cc mL rt R Z cn sn pc ls (.int (nI j) :: .ref (gB G + 85) :: st) h :=
  b_iald j hd (hm.2.2.2 4 (by decide)) rfl hj (by decide) (by rw [e]; exact kk)
theorem ms_tape {j x : Nat} (hm : MS G h0 h m) (hd : decode cc pc = .ok (.iastore, 1)) (hj : j < 120) (kk : ∀ h1, MS G h0 h1 (sTape m (va_up (mTape m) j x)) → AW G y cc mL rt R Z cn sn (pc + 1) ls st h1) : AW G y cc mL rt R Z cn sn pc ls (.int (nI x) :: .int (nI j) :: .ref (gB G + 85) :: st) h := by
  have H := MS.ar (m2 := sTape m (va_up (mTape m) j x)) hm 4 (by decide) rfl (fun i hi q => match i, hi, q with
    | 0, _, q => rfl
    | 1, _, q => rfl
    | 2, _, q => rfl
    | 3, _, q => rfl
    | 4, _, q => absurd rfl q
    | 5, _, q => rfl
    | 6, _, q => rfl
    | 7, _, q => rfl
    | 8, _, q => rfl
    | 9, _, q => rfl
    | 10, _, q => rfl
    | 11, _, q => rfl
    | 12, _, q => rfl
    | 13, _, q => rfl
    | 14, _, q => rfl
    | 15, _, q => rfl
    | 16, _, q => rfl
    | 17, _, q => rfl
    | 18, _, q => rfl
    | 19, _, q => rfl
    | 20, _, q => rfl
    | 21, _, q => rfl
    | 22, _, q => rfl
    | 23, _, q => rfl
    | i + 24, hi, _ => absurd hi (by omega))
  refine b_iast j hd (hm.2.2.2 4 (by decide)) rfl hj (by decide) ?_
  refine a_h (congrArg (fun e => h.set 85 e) ?_) (kk _ H)
  exact congrArg (fun f : Nat → Int32 => (show va_E from .inl (gc G 0, 120, .inl f))) (upd_nI _ _ _)
theorem mg_135 {x : Nat} (hm : MS G h0 h m) (ho : y.cls = RX12) (hd : decode cc pc = .ok (.getfield 135, 3)) (e : mTapeMany m = x) (kk : AW G y cc mL rt R Z cn sn (pc + 3) ls (.int (nI (x)) :: st) h) : AW G y cc mL rt R Z cn sn pc ls (.ref (gB G + 80) :: st) h :=
  gf_X12_135 ho hd hm.2.2.1 (by rw [e]; exact kk)
theorem mp_135 {x : Nat} (hm : MS G h0 h m) (ho : y.cls = RX12) (hd : decode cc pc = .ok (.putfield 135, 3)) (kk : ∀ h1, MS G h0 h1 (sTapeMany m x) → AW G y cc mL rt R Z cn sn (pc + 3) ls st h1) : AW G y cc mL rt R Z cn sn pc ls (.int (nI (x)) :: .ref (gB G + 80) :: st) h :=
  pf_X12_135 ho hd hm.2.2.1 (kk _ (MS.ob (m2 := sTapeMany m x) hm (fun _ => rfl)))
theorem mg_25 (hm : MS G h0 h m) (ho : y.cls = RX12) (hd : decode cc pc = .ok (.getfield 25, 3)) (kk : AW G y cc mL rt R Z cn sn (pc + 3) ls (.ref (gB G + 86) :: st) h) : AW G y cc mL rt R Z cn sn pc ls (.ref (gB G + 80) :: st) h :=
  gf_X12_25 ho hd hm.2.2.1 kk
theorem ml_text {j x : Nat} (hm : MS G h0 h m) (hd : decode cc pc = .ok (.iaload, 1)) (hj : j < 120) (e : mText m j = x) (kk : AW G y cc mL rt R Z cn sn (pc + 1) ls (.int (nI x) :: st) h) : AW G y cc mL rt R Z cn sn pc ls (.int (nI j) :: .ref (gB G + 86) :: st) h :=
  b_iald j hd (hm.2.2.2 5 (by decide)) rfl hj (by decide) (by rw [e]; exact kk)
theorem ms_text {j x : Nat} (hm : MS G h0 h m) (hd : decode cc pc = .ok (.iastore, 1)) (hj : j < 120) (kk : ∀ h1, MS G h0 h1 (sText m (va_up (mText m) j x)) → AW G y cc mL rt R Z cn sn (pc + 1) ls st h1) : AW G y cc mL rt R Z cn sn pc ls (.int (nI x) :: .int (nI j) :: .ref (gB G + 86) :: st) h := by
  have H := MS.ar (m2 := sText m (va_up (mText m) j x)) hm 5 (by decide) rfl (fun i hi q => match i, hi, q with
    | 0, _, q => rfl
    | 1, _, q => rfl
    | 2, _, q => rfl
    | 3, _, q => rfl
    | 4, _, q => rfl
    | 5, _, q => absurd rfl q
    | 6, _, q => rfl
    | 7, _, q => rfl
    | 8, _, q => rfl
    | 9, _, q => rfl
    | 10, _, q => rfl
    | 11, _, q => rfl
    | 12, _, q => rfl
    | 13, _, q => rfl
    | 14, _, q => rfl
    | 15, _, q => rfl
    | 16, _, q => rfl
    | 17, _, q => rfl
    | 18, _, q => rfl
    | 19, _, q => rfl
    | 20, _, q => rfl
    | 21, _, q => rfl
    | 22, _, q => rfl
    | 23, _, q => rfl
    | i + 24, hi, _ => absurd hi (by omega))
  refine b_iast j hd (hm.2.2.2 5 (by decide)) rfl hj (by decide) ?_
  refine a_h (congrArg (fun e => h.set 86 e) ?_) (kk _ H)
  exact congrArg (fun f : Nat → Int32 => (show va_E from .inl (gc G 0, 120, .inl f))) (upd_nI _ _ _)
theorem mg_84 {x : Int32} (hm : MS G h0 h m) (ho : y.cls = RX12) (hd : decode cc pc = .ok (.getfield 84, 3)) (e : mTextMany m = x) (kk : AW G y cc mL rt R Z cn sn (pc + 3) ls (.int (x) :: st) h) : AW G y cc mL rt R Z cn sn pc ls (.ref (gB G + 80) :: st) h :=
  gf_X12_84 ho hd hm.2.2.1 (by rw [e]; exact kk)
theorem mp_84 {x : Int32} (hm : MS G h0 h m) (ho : y.cls = RX12) (hd : decode cc pc = .ok (.putfield 84, 3)) (kk : ∀ h1, MS G h0 h1 (sTextMany m x) → AW G y cc mL rt R Z cn sn (pc + 3) ls st h1) : AW G y cc mL rt R Z cn sn pc ls (.int (x) :: .ref (gB G + 80) :: st) h :=
  pf_X12_84 ho hd hm.2.2.1 (kk _ (MS.ob (m2 := sTextMany m x) hm (fun _ => rfl)))
theorem mg_144 {x : Int32} (hm : MS G h0 h m) (ho : y.cls = RX12) (hd : decode cc pc = .ok (.getfield 144, 3)) (e : mBase m = x) (kk : AW G y cc mL rt R Z cn sn (pc + 3) ls (.int (x) :: st) h) : AW G y cc mL rt R Z cn sn pc ls (.ref (gB G + 80) :: st) h :=
  gf_X12_144 ho hd hm.2.2.1 (by rw [e]; exact kk)
theorem mp_144 {x : Int32} (hm : MS G h0 h m) (ho : y.cls = RX12) (hd : decode cc pc = .ok (.putfield 144, 3)) (kk : ∀ h1, MS G h0 h1 (sBase m x) → AW G y cc mL rt R Z cn sn (pc + 3) ls st h1) : AW G y cc mL rt R Z cn sn pc ls (.int (x) :: .ref (gB G + 80) :: st) h :=
  pf_X12_144 ho hd hm.2.2.1 (kk _ (MS.ob (m2 := sBase m x) hm (fun _ => rfl)))
theorem mg_138 {x : Nat} (hm : MS G h0 h m) (ho : y.cls = RX12) (hd : decode cc pc = .ok (.getfield 138, 3)) (e : mAt m = x) (kk : AW G y cc mL rt R Z cn sn (pc + 3) ls (.int (nI (x)) :: st) h) : AW G y cc mL rt R Z cn sn pc ls (.ref (gB G + 80) :: st) h :=
  gf_X12_138 ho hd hm.2.2.1 (by rw [e]; exact kk)
theorem mp_138 {x : Nat} (hm : MS G h0 h m) (ho : y.cls = RX12) (hd : decode cc pc = .ok (.putfield 138, 3)) (kk : ∀ h1, MS G h0 h1 (sAt m x) → AW G y cc mL rt R Z cn sn (pc + 3) ls st h1) : AW G y cc mL rt R Z cn sn pc ls (.int (nI (x)) :: .ref (gB G + 80) :: st) h :=
  pf_X12_138 ho hd hm.2.2.1 (kk _ (MS.ob (m2 := sAt m x) hm (fun _ => rfl)))
theorem mg_141 {x : Nat} (hm : MS G h0 h m) (ho : y.cls = RX12) (hd : decode cc pc = .ok (.getfield 141, 3)) (e : mEnds m = x) (kk : AW G y cc mL rt R Z cn sn (pc + 3) ls (.int (nI (x)) :: st) h) : AW G y cc mL rt R Z cn sn pc ls (.ref (gB G + 80) :: st) h :=
  gf_X12_141 ho hd hm.2.2.1 (by rw [e]; exact kk)
theorem mp_141 {x : Nat} (hm : MS G h0 h m) (ho : y.cls = RX12) (hd : decode cc pc = .ok (.putfield 141, 3)) (kk : ∀ h1, MS G h0 h1 (sEnds m x) → AW G y cc mL rt R Z cn sn (pc + 3) ls st h1) : AW G y cc mL rt R Z cn sn pc ls (.int (nI (x)) :: .ref (gB G + 80) :: st) h :=
  pf_X12_141 ho hd hm.2.2.1 (kk _ (MS.ob (m2 := sEnds m x) hm (fun _ => rfl)))
theorem mg_147 {x : Int32} (hm : MS G h0 h m) (ho : y.cls = RX12) (hd : decode cc pc = .ok (.getfield 147, 3)) (e : mFault m = x) (kk : AW G y cc mL rt R Z cn sn (pc + 3) ls (.int (x) :: st) h) : AW G y cc mL rt R Z cn sn pc ls (.ref (gB G + 80) :: st) h :=
  gf_X12_147 ho hd hm.2.2.1 (by rw [e]; exact kk)
theorem mp_147 {x : Int32} (hm : MS G h0 h m) (ho : y.cls = RX12) (hd : decode cc pc = .ok (.putfield 147, 3)) (kk : ∀ h1, MS G h0 h1 (sFault m x) → AW G y cc mL rt R Z cn sn (pc + 3) ls st h1) : AW G y cc mL rt R Z cn sn pc ls (.int (x) :: .ref (gB G + 80) :: st) h :=
  pf_X12_147 ho hd hm.2.2.1 (kk _ (MS.ob (m2 := sFault m x) hm (fun _ => rfl)))
theorem mg_172 {x : Nat} (hm : MS G h0 h m) (ho : y.cls = RX12) (hd : decode cc pc = .ok (.getfield 172, 3)) (e : mOpened m = x) (kk : AW G y cc mL rt R Z cn sn (pc + 3) ls (.int (nI (x)) :: st) h) : AW G y cc mL rt R Z cn sn pc ls (.ref (gB G + 80) :: st) h :=
  gf_X12_172 ho hd hm.2.2.1 (by rw [e]; exact kk)
theorem mp_172 {x : Nat} (hm : MS G h0 h m) (ho : y.cls = RX12) (hd : decode cc pc = .ok (.putfield 172, 3)) (kk : ∀ h1, MS G h0 h1 (sOpened m x) → AW G y cc mL rt R Z cn sn (pc + 3) ls st h1) : AW G y cc mL rt R Z cn sn pc ls (.int (nI (x)) :: .ref (gB G + 80) :: st) h :=
  pf_X12_172 ho hd hm.2.2.1 (kk _ (MS.ob (m2 := sOpened m x) hm (fun _ => rfl)))
theorem mg_28 (hm : MS G h0 h m) (ho : y.cls = RX12) (hd : decode cc pc = .ok (.getfield 28, 3)) (kk : AW G y cc mL rt R Z cn sn (pc + 3) ls (.ref (gB G + 87) :: st) h) : AW G y cc mL rt R Z cn sn pc ls (.ref (gB G + 80) :: st) h :=
  gf_X12_28 ho hd hm.2.2.1 kk
theorem ml_names {j x : Nat} (hm : MS G h0 h m) (hd : decode cc pc = .ok (.iaload, 1)) (hj : j < 6) (e : mNames m j = x) (kk : AW G y cc mL rt R Z cn sn (pc + 1) ls (.int (nI x) :: st) h) : AW G y cc mL rt R Z cn sn pc ls (.int (nI j) :: .ref (gB G + 87) :: st) h :=
  b_iald j hd (hm.2.2.2 6 (by decide)) rfl hj (by decide) (by rw [e]; exact kk)
theorem ms_names {j x : Nat} (hm : MS G h0 h m) (hd : decode cc pc = .ok (.iastore, 1)) (hj : j < 6) (kk : ∀ h1, MS G h0 h1 (sNames m (va_up (mNames m) j x)) → AW G y cc mL rt R Z cn sn (pc + 1) ls st h1) : AW G y cc mL rt R Z cn sn pc ls (.int (nI x) :: .int (nI j) :: .ref (gB G + 87) :: st) h := by
  have H := MS.ar (m2 := sNames m (va_up (mNames m) j x)) hm 6 (by decide) rfl (fun i hi q => match i, hi, q with
    | 0, _, q => rfl
    | 1, _, q => rfl
    | 2, _, q => rfl
    | 3, _, q => rfl
    | 4, _, q => rfl
    | 5, _, q => rfl
    | 6, _, q => absurd rfl q
    | 7, _, q => rfl
    | 8, _, q => rfl
    | 9, _, q => rfl
    | 10, _, q => rfl
    | 11, _, q => rfl
    | 12, _, q => rfl
    | 13, _, q => rfl
    | 14, _, q => rfl
    | 15, _, q => rfl
    | 16, _, q => rfl
    | 17, _, q => rfl
    | 18, _, q => rfl
    | 19, _, q => rfl
    | 20, _, q => rfl
    | 21, _, q => rfl
    | 22, _, q => rfl
    | 23, _, q => rfl
    | i + 24, hi, _ => absurd hi (by omega))
  refine b_iast j hd (hm.2.2.2 6 (by decide)) rfl hj (by decide) ?_
  refine a_h (congrArg (fun e => h.set 87 e) ?_) (kk _ H)
  exact congrArg (fun f : Nat → Int32 => (show va_E from .inl (gc G 0, 6, .inl f))) (upd_nI _ _ _)
theorem mg_31 (hm : MS G h0 h m) (ho : y.cls = RX12) (hd : decode cc pc = .ok (.getfield 31, 3)) (kk : AW G y cc mL rt R Z cn sn (pc + 3) ls (.ref (gB G + 88) :: st) h) : AW G y cc mL rt R Z cn sn pc ls (.ref (gB G + 80) :: st) h :=
  gf_X12_31 ho hd hm.2.2.1 kk
theorem ml_wax {j x : Nat} (hm : MS G h0 h m) (hd : decode cc pc = .ok (.iaload, 1)) (hj : j < 36) (e : mWax m j = x) (kk : AW G y cc mL rt R Z cn sn (pc + 1) ls (.int (nI x) :: st) h) : AW G y cc mL rt R Z cn sn pc ls (.int (nI j) :: .ref (gB G + 88) :: st) h :=
  b_iald j hd (hm.2.2.2 7 (by decide)) rfl hj (by decide) (by rw [e]; exact kk)
theorem ms_wax {j x : Nat} (hm : MS G h0 h m) (hd : decode cc pc = .ok (.iastore, 1)) (hj : j < 36) (kk : ∀ h1, MS G h0 h1 (sWax m (va_up (mWax m) j x)) → AW G y cc mL rt R Z cn sn (pc + 1) ls st h1) : AW G y cc mL rt R Z cn sn pc ls (.int (nI x) :: .int (nI j) :: .ref (gB G + 88) :: st) h := by
  have H := MS.ar (m2 := sWax m (va_up (mWax m) j x)) hm 7 (by decide) rfl (fun i hi q => match i, hi, q with
    | 0, _, q => rfl
    | 1, _, q => rfl
    | 2, _, q => rfl
    | 3, _, q => rfl
    | 4, _, q => rfl
    | 5, _, q => rfl
    | 6, _, q => rfl
    | 7, _, q => absurd rfl q
    | 8, _, q => rfl
    | 9, _, q => rfl
    | 10, _, q => rfl
    | 11, _, q => rfl
    | 12, _, q => rfl
    | 13, _, q => rfl
    | 14, _, q => rfl
    | 15, _, q => rfl
    | 16, _, q => rfl
    | 17, _, q => rfl
    | 18, _, q => rfl
    | 19, _, q => rfl
    | 20, _, q => rfl
    | 21, _, q => rfl
    | 22, _, q => rfl
    | 23, _, q => rfl
    | i + 24, hi, _ => absurd hi (by omega))
  refine b_iast j hd (hm.2.2.2 7 (by decide)) rfl hj (by decide) ?_
  refine a_h (congrArg (fun e => h.set 88 e) ?_) (kk _ H)
  exact congrArg (fun f : Nat → Int32 => (show va_E from .inl (gc G 0, 36, .inl f))) (upd_nI _ _ _)
theorem mg_34 (hm : MS G h0 h m) (ho : y.cls = RX12) (hd : decode cc pc = .ok (.getfield 34, 3)) (kk : AW G y cc mL rt R Z cn sn (pc + 3) ls (.ref (gB G + 89) :: st) h) : AW G y cc mL rt R Z cn sn pc ls (.ref (gB G + 80) :: st) h :=
  gf_X12_34 ho hd hm.2.2.1 kk
theorem ml_isDark {j x : Nat} (hm : MS G h0 h m) (hd : decode cc pc = .ok (.iaload, 1)) (hj : j < 36) (e : mIsDark m j = x) (kk : AW G y cc mL rt R Z cn sn (pc + 1) ls (.int (nI x) :: st) h) : AW G y cc mL rt R Z cn sn pc ls (.int (nI j) :: .ref (gB G + 89) :: st) h :=
  b_iald j hd (hm.2.2.2 8 (by decide)) rfl hj (by decide) (by rw [e]; exact kk)
theorem ms_isDark {j x : Nat} (hm : MS G h0 h m) (hd : decode cc pc = .ok (.iastore, 1)) (hj : j < 36) (kk : ∀ h1, MS G h0 h1 (sIsDark m (va_up (mIsDark m) j x)) → AW G y cc mL rt R Z cn sn (pc + 1) ls st h1) : AW G y cc mL rt R Z cn sn pc ls (.int (nI x) :: .int (nI j) :: .ref (gB G + 89) :: st) h := by
  have H := MS.ar (m2 := sIsDark m (va_up (mIsDark m) j x)) hm 8 (by decide) rfl (fun i hi q => match i, hi, q with
    | 0, _, q => rfl
    | 1, _, q => rfl
    | 2, _, q => rfl
    | 3, _, q => rfl
    | 4, _, q => rfl
    | 5, _, q => rfl
    | 6, _, q => rfl
    | 7, _, q => rfl
    | 8, _, q => absurd rfl q
    | 9, _, q => rfl
    | 10, _, q => rfl
    | 11, _, q => rfl
    | 12, _, q => rfl
    | 13, _, q => rfl
    | 14, _, q => rfl
    | 15, _, q => rfl
    | 16, _, q => rfl
    | 17, _, q => rfl
    | 18, _, q => rfl
    | 19, _, q => rfl
    | 20, _, q => rfl
    | 21, _, q => rfl
    | 22, _, q => rfl
    | 23, _, q => rfl
    | i + 24, hi, _ => absurd hi (by omega))
  refine b_iast j hd (hm.2.2.2 8 (by decide)) rfl hj (by decide) ?_
  refine a_h (congrArg (fun e => h.set 89 e) ?_) (kk _ H)
  exact congrArg (fun f : Nat → Int32 => (show va_E from .inl (gc G 0, 36, .inl f))) (upd_nI _ _ _)
theorem mg_188 {x : Nat} (hm : MS G h0 h m) (ho : y.cls = RX12) (hd : decode cc pc = .ok (.getfield 188, 3)) (e : mHourThen m = x) (kk : AW G y cc mL rt R Z cn sn (pc + 3) ls (.int (nI (x)) :: st) h) : AW G y cc mL rt R Z cn sn pc ls (.ref (gB G + 80) :: st) h :=
  gf_X12_188 ho hd hm.2.2.1 (by rw [e]; exact kk)
theorem mp_188 {x : Nat} (hm : MS G h0 h m) (ho : y.cls = RX12) (hd : decode cc pc = .ok (.putfield 188, 3)) (kk : ∀ h1, MS G h0 h1 (sHourThen m x) → AW G y cc mL rt R Z cn sn (pc + 3) ls st h1) : AW G y cc mL rt R Z cn sn pc ls (.int (nI (x)) :: .ref (gB G + 80) :: st) h :=
  pf_X12_188 ho hd hm.2.2.1 (kk _ (MS.ob (m2 := sHourThen m x) hm (fun _ => rfl)))
theorem mg_205 {x : Nat} (hm : MS G h0 h m) (ho : y.cls = RX12) (hd : decode cc pc = .ok (.getfield 205, 3)) (e : mFell m = x) (kk : AW G y cc mL rt R Z cn sn (pc + 3) ls (.int (nI (x)) :: st) h) : AW G y cc mL rt R Z cn sn pc ls (.ref (gB G + 80) :: st) h :=
  gf_X12_205 ho hd hm.2.2.1 (by rw [e]; exact kk)
theorem mp_205 {x : Nat} (hm : MS G h0 h m) (ho : y.cls = RX12) (hd : decode cc pc = .ok (.putfield 205, 3)) (kk : ∀ h1, MS G h0 h1 (sFell m x) → AW G y cc mL rt R Z cn sn (pc + 3) ls st h1) : AW G y cc mL rt R Z cn sn pc ls (.int (nI (x)) :: .ref (gB G + 80) :: st) h :=
  pf_X12_205 ho hd hm.2.2.1 (kk _ (MS.ob (m2 := sFell m x) hm (fun _ => rfl)))
theorem mg_208 {x : Nat} (hm : MS G h0 h m) (ho : y.cls = RX12) (hd : decode cc pc = .ok (.getfield 208, 3)) (e : mGotBack m = x) (kk : AW G y cc mL rt R Z cn sn (pc + 3) ls (.int (nI (x)) :: st) h) : AW G y cc mL rt R Z cn sn pc ls (.ref (gB G + 80) :: st) h :=
  gf_X12_208 ho hd hm.2.2.1 (by rw [e]; exact kk)
theorem mp_208 {x : Nat} (hm : MS G h0 h m) (ho : y.cls = RX12) (hd : decode cc pc = .ok (.putfield 208, 3)) (kk : ∀ h1, MS G h0 h1 (sGotBack m x) → AW G y cc mL rt R Z cn sn (pc + 3) ls st h1) : AW G y cc mL rt R Z cn sn pc ls (.int (nI (x)) :: .ref (gB G + 80) :: st) h :=
  pf_X12_208 ho hd hm.2.2.1 (kk _ (MS.ob (m2 := sGotBack m x) hm (fun _ => rfl)))
theorem mg_211 {x : Nat} (hm : MS G h0 h m) (ho : y.cls = RX12) (hd : decode cc pc = .ok (.getfield 211, 3)) (e : mBurnt m = x) (kk : AW G y cc mL rt R Z cn sn (pc + 3) ls (.int (nI (x)) :: st) h) : AW G y cc mL rt R Z cn sn pc ls (.ref (gB G + 80) :: st) h :=
  gf_X12_211 ho hd hm.2.2.1 (by rw [e]; exact kk)
theorem mp_211 {x : Nat} (hm : MS G h0 h m) (ho : y.cls = RX12) (hd : decode cc pc = .ok (.putfield 211, 3)) (kk : ∀ h1, MS G h0 h1 (sBurnt m x) → AW G y cc mL rt R Z cn sn (pc + 3) ls st h1) : AW G y cc mL rt R Z cn sn pc ls (.int (nI (x)) :: .ref (gB G + 80) :: st) h :=
  pf_X12_211 ho hd hm.2.2.1 (kk _ (MS.ob (m2 := sBurnt m x) hm (fun _ => rfl)))
theorem mg_37 (hm : MS G h0 h m) (ho : y.cls = RX12) (hd : decode cc pc = .ok (.getfield 37, 3)) (kk : AW G y cc mL rt R Z cn sn (pc + 3) ls (.ref (gB G + 90) :: st) h) : AW G y cc mL rt R Z cn sn pc ls (.ref (gB G + 80) :: st) h :=
  gf_X12_37 ho hd hm.2.2.1 kk
theorem ml_turns {j x : Nat} (hm : MS G h0 h m) (hd : decode cc pc = .ok (.iaload, 1)) (hj : j < 36) (e : mTurns m j = x) (kk : AW G y cc mL rt R Z cn sn (pc + 1) ls (.int (nI x) :: st) h) : AW G y cc mL rt R Z cn sn pc ls (.int (nI j) :: .ref (gB G + 90) :: st) h :=
  b_iald j hd (hm.2.2.2 9 (by decide)) rfl hj (by decide) (by rw [e]; exact kk)
theorem ms_turns {j x : Nat} (hm : MS G h0 h m) (hd : decode cc pc = .ok (.iastore, 1)) (hj : j < 36) (kk : ∀ h1, MS G h0 h1 (sTurns m (va_up (mTurns m) j x)) → AW G y cc mL rt R Z cn sn (pc + 1) ls st h1) : AW G y cc mL rt R Z cn sn pc ls (.int (nI x) :: .int (nI j) :: .ref (gB G + 90) :: st) h := by
  have H := MS.ar (m2 := sTurns m (va_up (mTurns m) j x)) hm 9 (by decide) rfl (fun i hi q => match i, hi, q with
    | 0, _, q => rfl
    | 1, _, q => rfl
    | 2, _, q => rfl
    | 3, _, q => rfl
    | 4, _, q => rfl
    | 5, _, q => rfl
    | 6, _, q => rfl
    | 7, _, q => rfl
    | 8, _, q => rfl
    | 9, _, q => absurd rfl q
    | 10, _, q => rfl
    | 11, _, q => rfl
    | 12, _, q => rfl
    | 13, _, q => rfl
    | 14, _, q => rfl
    | 15, _, q => rfl
    | 16, _, q => rfl
    | 17, _, q => rfl
    | 18, _, q => rfl
    | 19, _, q => rfl
    | 20, _, q => rfl
    | 21, _, q => rfl
    | 22, _, q => rfl
    | 23, _, q => rfl
    | i + 24, hi, _ => absurd hi (by omega))
  refine b_iast j hd (hm.2.2.2 9 (by decide)) rfl hj (by decide) ?_
  refine a_h (congrArg (fun e => h.set 90 e) ?_) (kk _ H)
  exact congrArg (fun f : Nat → Int32 => (show va_E from .inl (gc G 0, 36, .inl f))) (upd_nI _ _ _)
theorem mg_40 (hm : MS G h0 h m) (ho : y.cls = RX12) (hd : decode cc pc = .ok (.getfield 40, 3)) (kk : AW G y cc mL rt R Z cn sn (pc + 3) ls (.ref (gB G + 91) :: st) h) : AW G y cc mL rt R Z cn sn pc ls (.ref (gB G + 80) :: st) h :=
  gf_X12_40 ho hd hm.2.2.1 kk
theorem ml_steps {j x : Nat} (hm : MS G h0 h m) (hd : decode cc pc = .ok (.iaload, 1)) (hj : j < 36) (e : mSteps m j = x) (kk : AW G y cc mL rt R Z cn sn (pc + 1) ls (.int (nI x) :: st) h) : AW G y cc mL rt R Z cn sn pc ls (.int (nI j) :: .ref (gB G + 91) :: st) h :=
  b_iald j hd (hm.2.2.2 10 (by decide)) rfl hj (by decide) (by rw [e]; exact kk)
theorem ms_steps {j x : Nat} (hm : MS G h0 h m) (hd : decode cc pc = .ok (.iastore, 1)) (hj : j < 36) (kk : ∀ h1, MS G h0 h1 (sSteps m (va_up (mSteps m) j x)) → AW G y cc mL rt R Z cn sn (pc + 1) ls st h1) : AW G y cc mL rt R Z cn sn pc ls (.int (nI x) :: .int (nI j) :: .ref (gB G + 91) :: st) h := by
  have H := MS.ar (m2 := sSteps m (va_up (mSteps m) j x)) hm 10 (by decide) rfl (fun i hi q => match i, hi, q with
    | 0, _, q => rfl
    | 1, _, q => rfl
    | 2, _, q => rfl
    | 3, _, q => rfl
    | 4, _, q => rfl
    | 5, _, q => rfl
    | 6, _, q => rfl
    | 7, _, q => rfl
    | 8, _, q => rfl
    | 9, _, q => rfl
    | 10, _, q => absurd rfl q
    | 11, _, q => rfl
    | 12, _, q => rfl
    | 13, _, q => rfl
    | 14, _, q => rfl
    | 15, _, q => rfl
    | 16, _, q => rfl
    | 17, _, q => rfl
    | 18, _, q => rfl
    | 19, _, q => rfl
    | 20, _, q => rfl
    | 21, _, q => rfl
    | 22, _, q => rfl
    | 23, _, q => rfl
    | i + 24, hi, _ => absurd hi (by omega))
  refine b_iast j hd (hm.2.2.2 10 (by decide)) rfl hj (by decide) ?_
  refine a_h (congrArg (fun e => h.set 91 e) ?_) (kk _ H)
  exact congrArg (fun f : Nat → Int32 => (show va_E from .inl (gc G 0, 36, .inl f))) (upd_nI _ _ _)
theorem mg_43 (hm : MS G h0 h m) (ho : y.cls = RX12) (hd : decode cc pc = .ok (.getfield 43, 3)) (kk : AW G y cc mL rt R Z cn sn (pc + 3) ls (.ref (gB G + 92) :: st) h) : AW G y cc mL rt R Z cn sn pc ls (.ref (gB G + 80) :: st) h :=
  gf_X12_43 ho hd hm.2.2.1 kk
theorem ml_closed {j : Nat} {x : Bool} (hm : MS G h0 h m) (hd : decode cc pc = .ok (.baload, 1)) (hj : j < 36) (e : mClosed m j = x) (kk : AW G y cc mL rt R Z cn sn (pc + 1) ls (.int (bI x) :: st) h) : AW G y cc mL rt R Z cn sn pc ls (.int (nI j) :: .ref (gB G + 92) :: st) h :=
  b_bald j hd (hm.2.2.2 11 (by decide)) rfl hj (by decide) (by rw [e]; exact kk)
theorem ms_closed {j : Nat} {x : Bool} (hm : MS G h0 h m) (hd : decode cc pc = .ok (.bastore, 1)) (hj : j < 36) (kk : ∀ h1, MS G h0 h1 (sClosed m (va_up (mClosed m) j x)) → AW G y cc mL rt R Z cn sn (pc + 1) ls st h1) : AW G y cc mL rt R Z cn sn pc ls (.int (bI x) :: .int (nI j) :: .ref (gB G + 92) :: st) h := by
  have H := MS.ar (m2 := sClosed m (va_up (mClosed m) j x)) hm 11 (by decide) rfl (fun i hi q => match i, hi, q with
    | 0, _, q => rfl
    | 1, _, q => rfl
    | 2, _, q => rfl
    | 3, _, q => rfl
    | 4, _, q => rfl
    | 5, _, q => rfl
    | 6, _, q => rfl
    | 7, _, q => rfl
    | 8, _, q => rfl
    | 9, _, q => rfl
    | 10, _, q => rfl
    | 11, _, q => absurd rfl q
    | 12, _, q => rfl
    | 13, _, q => rfl
    | 14, _, q => rfl
    | 15, _, q => rfl
    | 16, _, q => rfl
    | 17, _, q => rfl
    | 18, _, q => rfl
    | 19, _, q => rfl
    | 20, _, q => rfl
    | 21, _, q => rfl
    | 22, _, q => rfl
    | 23, _, q => rfl
    | i + 24, hi, _ => absurd hi (by omega))
  refine a_bast (x' := bI x) j hd rfl hj (by decide) (by cases x <;> rfl) (hm.2.2.2 11 (by decide)) ?_
  refine a_h (congrArg (fun e => h.set 92 e) ?_) (kk _ H)
  exact congrArg (fun f : Nat → Int32 => (show va_E from .inl (gc G 2, 36, .inl f))) (upd_bI _ _ _)
theorem mg_47 (hm : MS G h0 h m) (ho : y.cls = RX12) (hd : decode cc pc = .ok (.getfield 47, 3)) (kk : AW G y cc mL rt R Z cn sn (pc + 3) ls (.ref (gB G + 93) :: st) h) : AW G y cc mL rt R Z cn sn pc ls (.ref (gB G + 80) :: st) h :=
  gf_X12_47 ho hd hm.2.2.1 kk
theorem ml_walked {j x : Nat} (hm : MS G h0 h m) (hd : decode cc pc = .ok (.iaload, 1)) (hj : j < 4) (e : mWalked m j = x) (kk : AW G y cc mL rt R Z cn sn (pc + 1) ls (.int (nI x) :: st) h) : AW G y cc mL rt R Z cn sn pc ls (.int (nI j) :: .ref (gB G + 93) :: st) h :=
  b_iald j hd (hm.2.2.2 12 (by decide)) rfl hj (by decide) (by rw [e]; exact kk)
theorem ms_walked {j x : Nat} (hm : MS G h0 h m) (hd : decode cc pc = .ok (.iastore, 1)) (hj : j < 4) (kk : ∀ h1, MS G h0 h1 (sWalked m (va_up (mWalked m) j x)) → AW G y cc mL rt R Z cn sn (pc + 1) ls st h1) : AW G y cc mL rt R Z cn sn pc ls (.int (nI x) :: .int (nI j) :: .ref (gB G + 93) :: st) h := by
  have H := MS.ar (m2 := sWalked m (va_up (mWalked m) j x)) hm 12 (by decide) rfl (fun i hi q => match i, hi, q with
    | 0, _, q => rfl
    | 1, _, q => rfl
    | 2, _, q => rfl
    | 3, _, q => rfl
    | 4, _, q => rfl
    | 5, _, q => rfl
    | 6, _, q => rfl
    | 7, _, q => rfl
    | 8, _, q => rfl
    | 9, _, q => rfl
    | 10, _, q => rfl
    | 11, _, q => rfl
    | 12, _, q => absurd rfl q
    | 13, _, q => rfl
    | 14, _, q => rfl
    | 15, _, q => rfl
    | 16, _, q => rfl
    | 17, _, q => rfl
    | 18, _, q => rfl
    | 19, _, q => rfl
    | 20, _, q => rfl
    | 21, _, q => rfl
    | 22, _, q => rfl
    | 23, _, q => rfl
    | i + 24, hi, _ => absurd hi (by omega))
  refine b_iast j hd (hm.2.2.2 12 (by decide)) rfl hj (by decide) ?_
  refine a_h (congrArg (fun e => h.set 93 e) ?_) (kk _ H)
  exact congrArg (fun f : Nat → Int32 => (show va_E from .inl (gc G 0, 4, .inl f))) (upd_nI _ _ _)
theorem mg_50 (hm : MS G h0 h m) (ho : y.cls = RX12) (hd : decode cc pc = .ok (.getfield 50, 3)) (kk : AW G y cc mL rt R Z cn sn (pc + 3) ls (.ref (gB G + 94) :: st) h) : AW G y cc mL rt R Z cn sn pc ls (.ref (gB G + 80) :: st) h :=
  gf_X12_50 ho hd hm.2.2.1 kk
theorem ml_bestWalk {j x : Nat} (hm : MS G h0 h m) (hd : decode cc pc = .ok (.iaload, 1)) (hj : j < 4) (e : mBestWalk m j = x) (kk : AW G y cc mL rt R Z cn sn (pc + 1) ls (.int (nI x) :: st) h) : AW G y cc mL rt R Z cn sn pc ls (.int (nI j) :: .ref (gB G + 94) :: st) h :=
  b_iald j hd (hm.2.2.2 13 (by decide)) rfl hj (by decide) (by rw [e]; exact kk)
theorem ms_bestWalk {j x : Nat} (hm : MS G h0 h m) (hd : decode cc pc = .ok (.iastore, 1)) (hj : j < 4) (kk : ∀ h1, MS G h0 h1 (sBestWalk m (va_up (mBestWalk m) j x)) → AW G y cc mL rt R Z cn sn (pc + 1) ls st h1) : AW G y cc mL rt R Z cn sn pc ls (.int (nI x) :: .int (nI j) :: .ref (gB G + 94) :: st) h := by
  have H := MS.ar (m2 := sBestWalk m (va_up (mBestWalk m) j x)) hm 13 (by decide) rfl (fun i hi q => match i, hi, q with
    | 0, _, q => rfl
    | 1, _, q => rfl
    | 2, _, q => rfl
    | 3, _, q => rfl
    | 4, _, q => rfl
    | 5, _, q => rfl
    | 6, _, q => rfl
    | 7, _, q => rfl
    | 8, _, q => rfl
    | 9, _, q => rfl
    | 10, _, q => rfl
    | 11, _, q => rfl
    | 12, _, q => rfl
    | 13, _, q => absurd rfl q
    | 14, _, q => rfl
    | 15, _, q => rfl
    | 16, _, q => rfl
    | 17, _, q => rfl
    | 18, _, q => rfl
    | 19, _, q => rfl
    | 20, _, q => rfl
    | 21, _, q => rfl
    | 22, _, q => rfl
    | 23, _, q => rfl
    | i + 24, hi, _ => absurd hi (by omega))
  refine b_iast j hd (hm.2.2.2 13 (by decide)) rfl hj (by decide) ?_
  refine a_h (congrArg (fun e => h.set 94 e) ?_) (kk _ H)
  exact congrArg (fun f : Nat → Int32 => (show va_E from .inl (gc G 0, 4, .inl f))) (upd_nI _ _ _)
theorem mg_272 {x : Nat} (hm : MS G h0 h m) (ho : y.cls = RX12) (hd : decode cc pc = .ok (.getfield 272, 3)) (e : mFewestDark m = x) (kk : AW G y cc mL rt R Z cn sn (pc + 3) ls (.int (nI (x)) :: st) h) : AW G y cc mL rt R Z cn sn pc ls (.ref (gB G + 80) :: st) h :=
  gf_X12_272 ho hd hm.2.2.1 (by rw [e]; exact kk)
theorem mp_272 {x : Nat} (hm : MS G h0 h m) (ho : y.cls = RX12) (hd : decode cc pc = .ok (.putfield 272, 3)) (kk : ∀ h1, MS G h0 h1 (sFewestDark m x) → AW G y cc mL rt R Z cn sn (pc + 3) ls st h1) : AW G y cc mL rt R Z cn sn pc ls (.int (nI (x)) :: .ref (gB G + 80) :: st) h :=
  pf_X12_272 ho hd hm.2.2.1 (kk _ (MS.ob (m2 := sFewestDark m x) hm (fun _ => rfl)))
theorem mg_53 (hm : MS G h0 h m) (ho : y.cls = RX12) (hd : decode cc pc = .ok (.getfield 53, 3)) (kk : AW G y cc mL rt R Z cn sn (pc + 3) ls (.ref (gB G + 95) :: st) h) : AW G y cc mL rt R Z cn sn pc ls (.ref (gB G + 80) :: st) h :=
  gf_X12_53 ho hd hm.2.2.1 kk
theorem ml_did {j x : Nat} (hm : MS G h0 h m) (hd : decode cc pc = .ok (.iaload, 1)) (hj : j < 3) (e : mDid m j = x) (kk : AW G y cc mL rt R Z cn sn (pc + 1) ls (.int (nI x) :: st) h) : AW G y cc mL rt R Z cn sn pc ls (.int (nI j) :: .ref (gB G + 95) :: st) h :=
  b_iald j hd (hm.2.2.2 14 (by decide)) rfl hj (by decide) (by rw [e]; exact kk)
theorem ms_did {j x : Nat} (hm : MS G h0 h m) (hd : decode cc pc = .ok (.iastore, 1)) (hj : j < 3) (kk : ∀ h1, MS G h0 h1 (sDid m (va_up (mDid m) j x)) → AW G y cc mL rt R Z cn sn (pc + 1) ls st h1) : AW G y cc mL rt R Z cn sn pc ls (.int (nI x) :: .int (nI j) :: .ref (gB G + 95) :: st) h := by
  have H := MS.ar (m2 := sDid m (va_up (mDid m) j x)) hm 14 (by decide) rfl (fun i hi q => match i, hi, q with
    | 0, _, q => rfl
    | 1, _, q => rfl
    | 2, _, q => rfl
    | 3, _, q => rfl
    | 4, _, q => rfl
    | 5, _, q => rfl
    | 6, _, q => rfl
    | 7, _, q => rfl
    | 8, _, q => rfl
    | 9, _, q => rfl
    | 10, _, q => rfl
    | 11, _, q => rfl
    | 12, _, q => rfl
    | 13, _, q => rfl
    | 14, _, q => absurd rfl q
    | 15, _, q => rfl
    | 16, _, q => rfl
    | 17, _, q => rfl
    | 18, _, q => rfl
    | 19, _, q => rfl
    | 20, _, q => rfl
    | 21, _, q => rfl
    | 22, _, q => rfl
    | 23, _, q => rfl
    | i + 24, hi, _ => absurd hi (by omega))
  refine b_iast j hd (hm.2.2.2 14 (by decide)) rfl hj (by decide) ?_
  refine a_h (congrArg (fun e => h.set 95 e) ?_) (kk _ H)
  exact congrArg (fun f : Nat → Int32 => (show va_E from .inl (gc G 0, 3, .inl f))) (upd_nI _ _ _)
theorem mg_56 (hm : MS G h0 h m) (ho : y.cls = RX12) (hd : decode cc pc = .ok (.getfield 56, 3)) (kk : AW G y cc mL rt R Z cn sn (pc + 3) ls (.ref (gB G + 96) :: st) h) : AW G y cc mL rt R Z cn sn pc ls (.ref (gB G + 80) :: st) h :=
  gf_X12_56 ho hd hm.2.2.1 kk
theorem ml_ledNow {j x : Nat} (hm : MS G h0 h m) (hd : decode cc pc = .ok (.iaload, 1)) (hj : j < 5) (e : mLedNow m j = x) (kk : AW G y cc mL rt R Z cn sn (pc + 1) ls (.int (nI x) :: st) h) : AW G y cc mL rt R Z cn sn pc ls (.int (nI j) :: .ref (gB G + 96) :: st) h :=
  b_iald j hd (hm.2.2.2 15 (by decide)) rfl hj (by decide) (by rw [e]; exact kk)
theorem ms_ledNow {j x : Nat} (hm : MS G h0 h m) (hd : decode cc pc = .ok (.iastore, 1)) (hj : j < 5) (kk : ∀ h1, MS G h0 h1 (sLedNow m (va_up (mLedNow m) j x)) → AW G y cc mL rt R Z cn sn (pc + 1) ls st h1) : AW G y cc mL rt R Z cn sn pc ls (.int (nI x) :: .int (nI j) :: .ref (gB G + 96) :: st) h := by
  have H := MS.ar (m2 := sLedNow m (va_up (mLedNow m) j x)) hm 15 (by decide) rfl (fun i hi q => match i, hi, q with
    | 0, _, q => rfl
    | 1, _, q => rfl
    | 2, _, q => rfl
    | 3, _, q => rfl
    | 4, _, q => rfl
    | 5, _, q => rfl
    | 6, _, q => rfl
    | 7, _, q => rfl
    | 8, _, q => rfl
    | 9, _, q => rfl
    | 10, _, q => rfl
    | 11, _, q => rfl
    | 12, _, q => rfl
    | 13, _, q => rfl
    | 14, _, q => rfl
    | 15, _, q => absurd rfl q
    | 16, _, q => rfl
    | 17, _, q => rfl
    | 18, _, q => rfl
    | 19, _, q => rfl
    | 20, _, q => rfl
    | 21, _, q => rfl
    | 22, _, q => rfl
    | 23, _, q => rfl
    | i + 24, hi, _ => absurd hi (by omega))
  refine b_iast j hd (hm.2.2.2 15 (by decide)) rfl hj (by decide) ?_
  refine a_h (congrArg (fun e => h.set 96 e) ?_) (kk _ H)
  exact congrArg (fun f : Nat → Int32 => (show va_E from .inl (gc G 0, 5, .inl f))) (upd_nI _ _ _)
theorem mg_297 {x : Bool} (hm : MS G h0 h m) (ho : y.cls = RX12) (hd : decode cc pc = .ok (.getfield 297, 3)) (e : mIsKept m = x) (kk : AW G y cc mL rt R Z cn sn (pc + 3) ls (.int (bI (x)) :: st) h) : AW G y cc mL rt R Z cn sn pc ls (.ref (gB G + 80) :: st) h :=
  gf_X12_297 ho hd hm.2.2.1 (by rw [e]; exact kk)
theorem mp_297 {x : Bool} (hm : MS G h0 h m) (ho : y.cls = RX12) (hd : decode cc pc = .ok (.putfield 297, 3)) (kk : ∀ h1, MS G h0 h1 (sIsKept m x) → AW G y cc mL rt R Z cn sn (pc + 3) ls st h1) : AW G y cc mL rt R Z cn sn pc ls (.int (bI (x)) :: .ref (gB G + 80) :: st) h :=
  pf_X12_297 ho hd (bI_nar x) (by cases x <;> rfl) hm.2.2.1 (kk _ (MS.ob (m2 := sIsKept m x) hm (fun _ => rfl)))
theorem mg_59 (hm : MS G h0 h m) (ho : y.cls = RX12) (hd : decode cc pc = .ok (.getfield 59, 3)) (kk : AW G y cc mL rt R Z cn sn (pc + 3) ls (.ref (gB G + 97) :: st) h) : AW G y cc mL rt R Z cn sn pc ls (.ref (gB G + 80) :: st) h :=
  gf_X12_59 ho hd hm.2.2.1 kk
theorem ml_imageMay {j x : Nat} (hm : MS G h0 h m) (hd : decode cc pc = .ok (.iaload, 1)) (hj : j < 147) (e : mImageMay m j = x) (kk : AW G y cc mL rt R Z cn sn (pc + 1) ls (.int (nI x) :: st) h) : AW G y cc mL rt R Z cn sn pc ls (.int (nI j) :: .ref (gB G + 97) :: st) h :=
  b_iald j hd (hm.2.2.2 16 (by decide)) rfl hj (by decide) (by rw [e]; exact kk)
theorem ms_imageMay {j x : Nat} (hm : MS G h0 h m) (hd : decode cc pc = .ok (.iastore, 1)) (hj : j < 147) (kk : ∀ h1, MS G h0 h1 (sImageMay m (va_up (mImageMay m) j x)) → AW G y cc mL rt R Z cn sn (pc + 1) ls st h1) : AW G y cc mL rt R Z cn sn pc ls (.int (nI x) :: .int (nI j) :: .ref (gB G + 97) :: st) h := by
  have H := MS.ar (m2 := sImageMay m (va_up (mImageMay m) j x)) hm 16 (by decide) rfl (fun i hi q => match i, hi, q with
    | 0, _, q => rfl
    | 1, _, q => rfl
    | 2, _, q => rfl
    | 3, _, q => rfl
    | 4, _, q => rfl
    | 5, _, q => rfl
    | 6, _, q => rfl
    | 7, _, q => rfl
    | 8, _, q => rfl
    | 9, _, q => rfl
    | 10, _, q => rfl
    | 11, _, q => rfl
    | 12, _, q => rfl
    | 13, _, q => rfl
    | 14, _, q => rfl
    | 15, _, q => rfl
    | 16, _, q => absurd rfl q
    | 17, _, q => rfl
    | 18, _, q => rfl
    | 19, _, q => rfl
    | 20, _, q => rfl
    | 21, _, q => rfl
    | 22, _, q => rfl
    | 23, _, q => rfl
    | i + 24, hi, _ => absurd hi (by omega))
  refine b_iast j hd (hm.2.2.2 16 (by decide)) rfl hj (by decide) ?_
  refine a_h (congrArg (fun e => h.set 97 e) ?_) (kk _ H)
  exact congrArg (fun f : Nat → Int32 => (show va_E from .inl (gc G 0, 147, .inl f))) (upd_nI _ _ _)
theorem mg_62 (hm : MS G h0 h m) (ho : y.cls = RX12) (hd : decode cc pc = .ok (.getfield 62, 3)) (kk : AW G y cc mL rt R Z cn sn (pc + 3) ls (.ref (gB G + 98) :: st) h) : AW G y cc mL rt R Z cn sn pc ls (.ref (gB G + 80) :: st) h :=
  gf_X12_62 ho hd hm.2.2.1 kk
theorem ml_imageLed {j x : Nat} (hm : MS G h0 h m) (hd : decode cc pc = .ok (.iaload, 1)) (hj : j < 5) (e : mImageLed m j = x) (kk : AW G y cc mL rt R Z cn sn (pc + 1) ls (.int (nI x) :: st) h) : AW G y cc mL rt R Z cn sn pc ls (.int (nI j) :: .ref (gB G + 98) :: st) h :=
  b_iald j hd (hm.2.2.2 17 (by decide)) rfl hj (by decide) (by rw [e]; exact kk)
theorem ms_imageLed {j x : Nat} (hm : MS G h0 h m) (hd : decode cc pc = .ok (.iastore, 1)) (hj : j < 5) (kk : ∀ h1, MS G h0 h1 (sImageLed m (va_up (mImageLed m) j x)) → AW G y cc mL rt R Z cn sn (pc + 1) ls st h1) : AW G y cc mL rt R Z cn sn pc ls (.int (nI x) :: .int (nI j) :: .ref (gB G + 98) :: st) h := by
  have H := MS.ar (m2 := sImageLed m (va_up (mImageLed m) j x)) hm 17 (by decide) rfl (fun i hi q => match i, hi, q with
    | 0, _, q => rfl
    | 1, _, q => rfl
    | 2, _, q => rfl
    | 3, _, q => rfl
    | 4, _, q => rfl
    | 5, _, q => rfl
    | 6, _, q => rfl
    | 7, _, q => rfl
    | 8, _, q => rfl
    | 9, _, q => rfl
    | 10, _, q => rfl
    | 11, _, q => rfl
    | 12, _, q => rfl
    | 13, _, q => rfl
    | 14, _, q => rfl
    | 15, _, q => rfl
    | 16, _, q => rfl
    | 17, _, q => absurd rfl q
    | 18, _, q => rfl
    | 19, _, q => rfl
    | 20, _, q => rfl
    | 21, _, q => rfl
    | 22, _, q => rfl
    | 23, _, q => rfl
    | i + 24, hi, _ => absurd hi (by omega))
  refine b_iast j hd (hm.2.2.2 17 (by decide)) rfl hj (by decide) ?_
  refine a_h (congrArg (fun e => h.set 98 e) ?_) (kk _ H)
  exact congrArg (fun f : Nat → Int32 => (show va_E from .inl (gc G 0, 5, .inl f))) (upd_nI _ _ _)
theorem mg_301 {x : Nat} (hm : MS G h0 h m) (ho : y.cls = RX12) (hd : decode cc pc = .ok (.getfield 301, 3)) (e : mBodies m = x) (kk : AW G y cc mL rt R Z cn sn (pc + 3) ls (.int (nI (x)) :: st) h) : AW G y cc mL rt R Z cn sn pc ls (.ref (gB G + 80) :: st) h :=
  gf_X12_301 ho hd hm.2.2.1 (by rw [e]; exact kk)
theorem mp_301 {x : Nat} (hm : MS G h0 h m) (ho : y.cls = RX12) (hd : decode cc pc = .ok (.putfield 301, 3)) (kk : ∀ h1, MS G h0 h1 (sBodies m x) → AW G y cc mL rt R Z cn sn (pc + 3) ls st h1) : AW G y cc mL rt R Z cn sn pc ls (.int (nI (x)) :: .ref (gB G + 80) :: st) h :=
  pf_X12_301 ho hd hm.2.2.1 (kk _ (MS.ob (m2 := sBodies m x) hm (fun _ => rfl)))
theorem mg_65 (hm : MS G h0 h m) (ho : y.cls = RX12) (hd : decode cc pc = .ok (.getfield 65, 3)) (kk : AW G y cc mL rt R Z cn sn (pc + 3) ls (.ref (gB G + 99) :: st) h) : AW G y cc mL rt R Z cn sn pc ls (.ref (gB G + 80) :: st) h :=
  gf_X12_65 ho hd hm.2.2.1 kk
theorem ml_bodyKind {j x : Nat} (hm : MS G h0 h m) (hd : decode cc pc = .ok (.iaload, 1)) (hj : j < 50) (e : mBodyKind m j = x) (kk : AW G y cc mL rt R Z cn sn (pc + 1) ls (.int (nI x) :: st) h) : AW G y cc mL rt R Z cn sn pc ls (.int (nI j) :: .ref (gB G + 99) :: st) h :=
  b_iald j hd (hm.2.2.2 18 (by decide)) rfl hj (by decide) (by rw [e]; exact kk)
theorem ms_bodyKind {j x : Nat} (hm : MS G h0 h m) (hd : decode cc pc = .ok (.iastore, 1)) (hj : j < 50) (kk : ∀ h1, MS G h0 h1 (sBodyKind m (va_up (mBodyKind m) j x)) → AW G y cc mL rt R Z cn sn (pc + 1) ls st h1) : AW G y cc mL rt R Z cn sn pc ls (.int (nI x) :: .int (nI j) :: .ref (gB G + 99) :: st) h := by
  have H := MS.ar (m2 := sBodyKind m (va_up (mBodyKind m) j x)) hm 18 (by decide) rfl (fun i hi q => match i, hi, q with
    | 0, _, q => rfl
    | 1, _, q => rfl
    | 2, _, q => rfl
    | 3, _, q => rfl
    | 4, _, q => rfl
    | 5, _, q => rfl
    | 6, _, q => rfl
    | 7, _, q => rfl
    | 8, _, q => rfl
    | 9, _, q => rfl
    | 10, _, q => rfl
    | 11, _, q => rfl
    | 12, _, q => rfl
    | 13, _, q => rfl
    | 14, _, q => rfl
    | 15, _, q => rfl
    | 16, _, q => rfl
    | 17, _, q => rfl
    | 18, _, q => absurd rfl q
    | 19, _, q => rfl
    | 20, _, q => rfl
    | 21, _, q => rfl
    | 22, _, q => rfl
    | 23, _, q => rfl
    | i + 24, hi, _ => absurd hi (by omega))
  refine b_iast j hd (hm.2.2.2 18 (by decide)) rfl hj (by decide) ?_
  refine a_h (congrArg (fun e => h.set 99 e) ?_) (kk _ H)
  exact congrArg (fun f : Nat → Int32 => (show va_E from .inl (gc G 0, 50, .inl f))) (upd_nI _ _ _)
theorem mg_68 (hm : MS G h0 h m) (ho : y.cls = RX12) (hd : decode cc pc = .ok (.getfield 68, 3)) (kk : AW G y cc mL rt R Z cn sn (pc + 3) ls (.ref (gB G + 100) :: st) h) : AW G y cc mL rt R Z cn sn pc ls (.ref (gB G + 80) :: st) h :=
  gf_X12_68 ho hd hm.2.2.1 kk
theorem ml_trace {j x : Nat} (hm : MS G h0 h m) (hd : decode cc pc = .ok (.iaload, 1)) (hj : j < 24) (e : mTrace m j = x) (kk : AW G y cc mL rt R Z cn sn (pc + 1) ls (.int (nI x) :: st) h) : AW G y cc mL rt R Z cn sn pc ls (.int (nI j) :: .ref (gB G + 100) :: st) h :=
  b_iald j hd (hm.2.2.2 19 (by decide)) rfl hj (by decide) (by rw [e]; exact kk)
theorem ms_trace {j x : Nat} (hm : MS G h0 h m) (hd : decode cc pc = .ok (.iastore, 1)) (hj : j < 24) (kk : ∀ h1, MS G h0 h1 (sTrace m (va_up (mTrace m) j x)) → AW G y cc mL rt R Z cn sn (pc + 1) ls st h1) : AW G y cc mL rt R Z cn sn pc ls (.int (nI x) :: .int (nI j) :: .ref (gB G + 100) :: st) h := by
  have H := MS.ar (m2 := sTrace m (va_up (mTrace m) j x)) hm 19 (by decide) rfl (fun i hi q => match i, hi, q with
    | 0, _, q => rfl
    | 1, _, q => rfl
    | 2, _, q => rfl
    | 3, _, q => rfl
    | 4, _, q => rfl
    | 5, _, q => rfl
    | 6, _, q => rfl
    | 7, _, q => rfl
    | 8, _, q => rfl
    | 9, _, q => rfl
    | 10, _, q => rfl
    | 11, _, q => rfl
    | 12, _, q => rfl
    | 13, _, q => rfl
    | 14, _, q => rfl
    | 15, _, q => rfl
    | 16, _, q => rfl
    | 17, _, q => rfl
    | 18, _, q => rfl
    | 19, _, q => absurd rfl q
    | 20, _, q => rfl
    | 21, _, q => rfl
    | 22, _, q => rfl
    | 23, _, q => rfl
    | i + 24, hi, _ => absurd hi (by omega))
  refine b_iast j hd (hm.2.2.2 19 (by decide)) rfl hj (by decide) ?_
  refine a_h (congrArg (fun e => h.set 100 e) ?_) (kk _ H)
  exact congrArg (fun f : Nat → Int32 => (show va_E from .inl (gc G 0, 24, .inl f))) (upd_nI _ _ _)
theorem mg_306 {x : Nat} (hm : MS G h0 h m) (ho : y.cls = RX12) (hd : decode cc pc = .ok (.getfield 306, 3)) (e : mRan m = x) (kk : AW G y cc mL rt R Z cn sn (pc + 3) ls (.int (nI (x)) :: st) h) : AW G y cc mL rt R Z cn sn pc ls (.ref (gB G + 80) :: st) h :=
  gf_X12_306 ho hd hm.2.2.1 (by rw [e]; exact kk)
theorem mp_306 {x : Nat} (hm : MS G h0 h m) (ho : y.cls = RX12) (hd : decode cc pc = .ok (.putfield 306, 3)) (kk : ∀ h1, MS G h0 h1 (sRan m x) → AW G y cc mL rt R Z cn sn (pc + 3) ls st h1) : AW G y cc mL rt R Z cn sn pc ls (.int (nI (x)) :: .ref (gB G + 80) :: st) h :=
  pf_X12_306 ho hd hm.2.2.1 (kk _ (MS.ob (m2 := sRan m x) hm (fun _ => rfl)))
theorem mg_321 {x : Nat} (hm : MS G h0 h m) (ho : y.cls = RX12) (hd : decode cc pc = .ok (.getfield 321, 3)) (e : mOwnKind m = x) (kk : AW G y cc mL rt R Z cn sn (pc + 3) ls (.int (nI (x)) :: st) h) : AW G y cc mL rt R Z cn sn pc ls (.ref (gB G + 80) :: st) h :=
  gf_X12_321 ho hd hm.2.2.1 (by rw [e]; exact kk)
theorem mp_321 {x : Nat} (hm : MS G h0 h m) (ho : y.cls = RX12) (hd : decode cc pc = .ok (.putfield 321, 3)) (kk : ∀ h1, MS G h0 h1 (sOwnKind m x) → AW G y cc mL rt R Z cn sn (pc + 3) ls st h1) : AW G y cc mL rt R Z cn sn pc ls (.int (nI (x)) :: .ref (gB G + 80) :: st) h :=
  pf_X12_321 ho hd hm.2.2.1 (kk _ (MS.ob (m2 := sOwnKind m x) hm (fun _ => rfl)))
theorem mg_315 {x : Nat} (hm : MS G h0 h m) (ho : y.cls = RX12) (hd : decode cc pc = .ok (.getfield 315, 3)) (e : mOwnNumber m = x) (kk : AW G y cc mL rt R Z cn sn (pc + 3) ls (.int (nI (x)) :: st) h) : AW G y cc mL rt R Z cn sn pc ls (.ref (gB G + 80) :: st) h :=
  gf_X12_315 ho hd hm.2.2.1 (by rw [e]; exact kk)
theorem mp_315 {x : Nat} (hm : MS G h0 h m) (ho : y.cls = RX12) (hd : decode cc pc = .ok (.putfield 315, 3)) (kk : ∀ h1, MS G h0 h1 (sOwnNumber m x) → AW G y cc mL rt R Z cn sn (pc + 3) ls st h1) : AW G y cc mL rt R Z cn sn pc ls (.int (nI (x)) :: .ref (gB G + 80) :: st) h :=
  pf_X12_315 ho hd hm.2.2.1 (kk _ (MS.ob (m2 := sOwnNumber m x) hm (fun _ => rfl)))
theorem mg_71 (hm : MS G h0 h m) (ho : y.cls = RX12) (hd : decode cc pc = .ok (.getfield 71, 3)) (kk : AW G y cc mL rt R Z cn sn (pc + 3) ls (.ref (gB G + 101) :: st) h) : AW G y cc mL rt R Z cn sn pc ls (.ref (gB G + 80) :: st) h :=
  gf_X12_71 ho hd hm.2.2.1 kk
theorem ml_shelf {j : Nat} {x : Int32} (hm : MS G h0 h m) (hd : decode cc pc = .ok (.iaload, 1)) (hj : j < 6) (e : mShelf m j = x) (kk : AW G y cc mL rt R Z cn sn (pc + 1) ls (.int x :: st) h) : AW G y cc mL rt R Z cn sn pc ls (.int (nI j) :: .ref (gB G + 101) :: st) h :=
  b_iald j hd (hm.2.2.2 20 (by decide)) rfl hj (by decide) (by rw [e]; exact kk)
theorem ms_shelf {j : Nat} {x : Int32} (hm : MS G h0 h m) (hd : decode cc pc = .ok (.iastore, 1)) (hj : j < 6) (kk : ∀ h1, MS G h0 h1 (sShelf m (upd (mShelf m) j x)) → AW G y cc mL rt R Z cn sn (pc + 1) ls st h1) : AW G y cc mL rt R Z cn sn pc ls (.int x :: .int (nI j) :: .ref (gB G + 101) :: st) h := by
  have H := MS.ar (m2 := sShelf m (upd (mShelf m) j x)) hm 20 (by decide) rfl (fun i hi q => match i, hi, q with
    | 0, _, q => rfl
    | 1, _, q => rfl
    | 2, _, q => rfl
    | 3, _, q => rfl
    | 4, _, q => rfl
    | 5, _, q => rfl
    | 6, _, q => rfl
    | 7, _, q => rfl
    | 8, _, q => rfl
    | 9, _, q => rfl
    | 10, _, q => rfl
    | 11, _, q => rfl
    | 12, _, q => rfl
    | 13, _, q => rfl
    | 14, _, q => rfl
    | 15, _, q => rfl
    | 16, _, q => rfl
    | 17, _, q => rfl
    | 18, _, q => rfl
    | 19, _, q => rfl
    | 20, _, q => absurd rfl q
    | 21, _, q => rfl
    | 22, _, q => rfl
    | 23, _, q => rfl
    | i + 24, hi, _ => absurd hi (by omega))
  refine b_iast j hd (hm.2.2.2 20 (by decide)) rfl hj (by decide) ?_
  refine a_h (congrArg (fun e => h.set 101 e) ?_) (kk _ H)
  exact congrArg (fun f : Nat → Int32 => (show va_E from .inl (gc G 0, 6, .inl f))) (rfl)
theorem mg_74 (hm : MS G h0 h m) (ho : y.cls = RX12) (hd : decode cc pc = .ok (.getfield 74, 3)) (kk : AW G y cc mL rt R Z cn sn (pc + 3) ls (.ref (gB G + 102) :: st) h) : AW G y cc mL rt R Z cn sn pc ls (.ref (gB G + 80) :: st) h :=
  gf_X12_74 ho hd hm.2.2.1 kk
theorem ml_many {j x : Nat} (hm : MS G h0 h m) (hd : decode cc pc = .ok (.iaload, 1)) (hj : j < 6) (e : mMany m j = x) (kk : AW G y cc mL rt R Z cn sn (pc + 1) ls (.int (nI x) :: st) h) : AW G y cc mL rt R Z cn sn pc ls (.int (nI j) :: .ref (gB G + 102) :: st) h :=
  b_iald j hd (hm.2.2.2 21 (by decide)) rfl hj (by decide) (by rw [e]; exact kk)
theorem ms_many {j x : Nat} (hm : MS G h0 h m) (hd : decode cc pc = .ok (.iastore, 1)) (hj : j < 6) (kk : ∀ h1, MS G h0 h1 (sMany m (va_up (mMany m) j x)) → AW G y cc mL rt R Z cn sn (pc + 1) ls st h1) : AW G y cc mL rt R Z cn sn pc ls (.int (nI x) :: .int (nI j) :: .ref (gB G + 102) :: st) h := by
  have H := MS.ar (m2 := sMany m (va_up (mMany m) j x)) hm 21 (by decide) rfl (fun i hi q => match i, hi, q with
    | 0, _, q => rfl
    | 1, _, q => rfl
    | 2, _, q => rfl
    | 3, _, q => rfl
    | 4, _, q => rfl
    | 5, _, q => rfl
    | 6, _, q => rfl
    | 7, _, q => rfl
    | 8, _, q => rfl
    | 9, _, q => rfl
    | 10, _, q => rfl
    | 11, _, q => rfl
    | 12, _, q => rfl
    | 13, _, q => rfl
    | 14, _, q => rfl
    | 15, _, q => rfl
    | 16, _, q => rfl
    | 17, _, q => rfl
    | 18, _, q => rfl
    | 19, _, q => rfl
    | 20, _, q => rfl
    | 21, _, q => absurd rfl q
    | 22, _, q => rfl
    | 23, _, q => rfl
    | i + 24, hi, _ => absurd hi (by omega))
  refine b_iast j hd (hm.2.2.2 21 (by decide)) rfl hj (by decide) ?_
  refine a_h (congrArg (fun e => h.set 102 e) ?_) (kk _ H)
  exact congrArg (fun f : Nat → Int32 => (show va_E from .inl (gc G 0, 6, .inl f))) (upd_nI _ _ _)
theorem mg_77 (hm : MS G h0 h m) (ho : y.cls = RX12) (hd : decode cc pc = .ok (.getfield 77, 3)) (kk : AW G y cc mL rt R Z cn sn (pc + 3) ls (.ref (gB G + 103) :: st) h) : AW G y cc mL rt R Z cn sn pc ls (.ref (gB G + 80) :: st) h :=
  gf_X12_77 ho hd hm.2.2.1 kk
theorem ml_items {j : Nat} {x : Int64} (hm : MS G h0 h m) (hd : decode cc pc = .ok (.laload, 1)) (hj : j < 360) (e : mItems m j = x) (kk : AW G y cc mL rt R Z cn sn (pc + 1) ls (.long x :: st) h) : AW G y cc mL rt R Z cn sn pc ls (.int (nI j) :: .ref (gB G + 103) :: st) h :=
  b_lald j hd (hm.2.2.2 22 (by decide)) rfl hj (by decide) (by rw [e]; exact kk)
theorem ms_items {j : Nat} {x : Int64} (hm : MS G h0 h m) (hd : decode cc pc = .ok (.lastore, 1)) (hj : j < 360) (kk : ∀ h1, MS G h0 h1 (sItems m (vp_updL (mItems m) j x)) → AW G y cc mL rt R Z cn sn (pc + 1) ls st h1) : AW G y cc mL rt R Z cn sn pc ls (.long x :: .int (nI j) :: .ref (gB G + 103) :: st) h := by
  have H := MS.ar (m2 := sItems m (vp_updL (mItems m) j x)) hm 22 (by decide) rfl (fun i hi q => match i, hi, q with
    | 0, _, q => rfl
    | 1, _, q => rfl
    | 2, _, q => rfl
    | 3, _, q => rfl
    | 4, _, q => rfl
    | 5, _, q => rfl
    | 6, _, q => rfl
    | 7, _, q => rfl
    | 8, _, q => rfl
    | 9, _, q => rfl
    | 10, _, q => rfl
    | 11, _, q => rfl
    | 12, _, q => rfl
    | 13, _, q => rfl
    | 14, _, q => rfl
    | 15, _, q => rfl
    | 16, _, q => rfl
    | 17, _, q => rfl
    | 18, _, q => rfl
    | 19, _, q => rfl
    | 20, _, q => rfl
    | 21, _, q => rfl
    | 22, _, q => absurd rfl q
    | 23, _, q => rfl
    | i + 24, hi, _ => absurd hi (by omega))
  refine b_last j hd (hm.2.2.2 22 (by decide)) rfl hj (by decide) ?_
  refine a_h (congrArg (fun e => h.set 103 e) ?_) (kk _ H)
  exact congrArg (fun f : Nat → Int64 => (show va_E from .inl (gc G 1, 360, .inr (.inl f)))) (rfl)
theorem mg_81 (hm : MS G h0 h m) (ho : y.cls = RX12) (hd : decode cc pc = .ok (.getfield 81, 3)) (kk : AW G y cc mL rt R Z cn sn (pc + 3) ls (.ref (gB G + 104) :: st) h) : AW G y cc mL rt R Z cn sn pc ls (.ref (gB G + 80) :: st) h :=
  gf_X12_81 ho hd hm.2.2.1 kk
theorem ml_carried {j : Nat} {x : Int64} (hm : MS G h0 h m) (hd : decode cc pc = .ok (.laload, 1)) (hj : j < 60) (e : mCarried m j = x) (kk : AW G y cc mL rt R Z cn sn (pc + 1) ls (.long x :: st) h) : AW G y cc mL rt R Z cn sn pc ls (.int (nI j) :: .ref (gB G + 104) :: st) h :=
  b_lald j hd (hm.2.2.2 23 (by decide)) rfl hj (by decide) (by rw [e]; exact kk)
theorem ms_carried {j : Nat} {x : Int64} (hm : MS G h0 h m) (hd : decode cc pc = .ok (.lastore, 1)) (hj : j < 60) (kk : ∀ h1, MS G h0 h1 (sCarried m (vp_updL (mCarried m) j x)) → AW G y cc mL rt R Z cn sn (pc + 1) ls st h1) : AW G y cc mL rt R Z cn sn pc ls (.long x :: .int (nI j) :: .ref (gB G + 104) :: st) h := by
  have H := MS.ar (m2 := sCarried m (vp_updL (mCarried m) j x)) hm 23 (by decide) rfl (fun i hi q => match i, hi, q with
    | 0, _, q => rfl
    | 1, _, q => rfl
    | 2, _, q => rfl
    | 3, _, q => rfl
    | 4, _, q => rfl
    | 5, _, q => rfl
    | 6, _, q => rfl
    | 7, _, q => rfl
    | 8, _, q => rfl
    | 9, _, q => rfl
    | 10, _, q => rfl
    | 11, _, q => rfl
    | 12, _, q => rfl
    | 13, _, q => rfl
    | 14, _, q => rfl
    | 15, _, q => rfl
    | 16, _, q => rfl
    | 17, _, q => rfl
    | 18, _, q => rfl
    | 19, _, q => rfl
    | 20, _, q => rfl
    | 21, _, q => rfl
    | 22, _, q => rfl
    | 23, _, q => absurd rfl q
    | i + 24, hi, _ => absurd hi (by omega))
  refine b_last j hd (hm.2.2.2 23 (by decide)) rfl hj (by decide) ?_
  refine a_h (congrArg (fun e => h.set 104 e) ?_) (kk _ H)
  exact congrArg (fun f : Nat → Int64 => (show va_E from .inl (gc G 1, 60, .inr (.inl f)))) (rfl)
end MRows
