/-! The calls that change nothing: what is answered (inl), or the sort of what is thrown (inr: 0 state, 1 argument, 2 index, 3 arithmetic, 4 unsupported, 5 no such element) -/
def wK {α : Type} (es : List Nat) (r : α ⊕ Nat) : Int32 := match r with
  | .inl _ => 0
  | .inr e => nI (es.idxOf e + 1)
def qV (r : Int32 ⊕ Nat) : Int32 := match r with
  | .inl v => v
  | .inr _ => 0
def noT (x : Int32) (A : Nat → Int32) : Prop := inn x 0 (A 0 - 1) = 0
def qTicketOf (x b : Int32) (A : Nat → Int32) : Int32 ⊕ Nat := if inn x 0 (A 0 - 1) = 0 then .inr 2 else if b = 0 then .inl (aT A x.toNatClampNeg 0) else if b = 1 then .inl (aVowels A x.toNatClampNeg) else if b = 2 then .inl (aT A x.toNatClampNeg 7) else if b = 3 then .inl (aT A x.toNatClampNeg 8) else if b = 4 then .inl (aT A x.toNatClampNeg 9) else if b = 5 then .inl (aT A x.toNatClampNeg 10) else if b = 6 then .inl (aT A x.toNatClampNeg 11) else .inr 1
def qWordAt (x p : Int32) (A : Nat → Int32) : Int32 ⊕ Nat := if inn x 0 (A 0 - 1) = 0 then .inr 2 else if inn p 0 (aT A x.toNatClampNeg 0 - 1) = 0 then .inr 5 else .inl (aL A x.toNatClampNeg p.toNatClampNeg)
def qHalfOf (x : Int32) (h : Nat) (b : Int32) (A : Nat → Int32) : Int32 ⊕ Nat := if inn x 0 (A 0 - 1) = 0 then .inr 2 else if b = 0 then .inl (pun A x.toNatClampNeg h) else if b = 1 then .inl (aH A x.toNatClampNeg h 0) else if b = 2 then .inl (aH A x.toNatClampNeg h 1) else if b = 3 then .inl (aHolesOf A x.toNatClampNeg h) else if b = 4 then .inl (aLeftOf A x.toNatClampNeg h) else if b = 5 then .inl (aH A x.toNatClampNeg h 2) else if b = 6 then .inl (aH A x.toNatClampNeg h 3) else if b = 7 then .inl (if pun A x.toNatClampNeg h = 0 then 0 else aRight A x.toNatClampNeg h (aH A x.toNatClampNeg h 1) (aH A x.toNatClampNeg h 0)) else .inr 1
def qReadAt (x : Int32) (h : Nat) (p : Int32) (A : Nat → Int32) : Int32 ⊕ Nat := if inn x 0 (A 0 - 1) = 0 then .inr 2 else if pun A x.toNatClampNeg h = 0 then .inr 5 else if inn p 0 (aT A x.toNatClampNeg 0 - 1) = 0 then .inr 5 else .inl (aReads A x.toNatClampNeg h p.toNatClampNeg)
def qDoAgree (x : Int32) (A : Nat → Int32) : Int32 ⊕ Nat := if inn x 0 (A 0 - 1) = 0 then .inr 2 else .inl (aAgree A x.toNatClampNeg)
def qMoodFor (x : Int32) (h : Nat) (A : Nat → Int32) : Int32 ⊕ Nat := if inn x 0 (A 0 - 1) = 0 then .inr 2 else if pun A x.toNatClampNeg h = 0 then .inr 5 else match (List.range 5).find? (fun m => decide (aRight A x.toNatClampNeg h (aH A x.toNatClampNeg h 1) (nI m) = aT A x.toNatClampNeg 0)) with
  | some m => .inl (nI m)
  | none => .inr 5
def qWould (x : Int32) (h : Nat) (b : Int32) (A : Nat → Int32) : Int32 ⊕ Nat := if inn x 0 (A 0 - 1) = 0 then .inr 2 else if inn b 0 9 = 0 then .inr 1 else if pun A x.toNatClampNeg h = 0 then .inr 5 else .inl (aRight A x.toNatClampNeg h (if aH A x.toNatClampNeg h 1 + b ≤ 9 then aH A x.toNatClampNeg h 1 + b else 9) (aH A x.toNatClampNeg h 0))
/-- how unlike the word of ticket u is to what is read on half h of ticket t -/
def aUn1 (A : Nat → Int32) (t h u k : Nat) : Int32 := if k < aLen A t then (if k < aLen A u then (if aReads A t h k = aL A u k then 0 else 1) else 1) else if k < aLen A u then 1 else 0
def aUn (A : Nat → Int32) (t h u : Nat) : Int32 := cnt (aUn1 A t h u) 6
def aBest (A : Nat → Int32) (t h : Nat) : Nat → Nat
  | 0 => 0
  | u + 1 => if aUn A t h u < aUn A t h (aBest A t h u) then u else aBest A t h u
def qLikely (x : Int32) (h : Nat) (A : Nat → Int32) : Int32 ⊕ Nat := if inn x 0 (A 0 - 1) = 0 then .inr 2 else if pun A x.toNatClampNeg h = 0 then .inr 5 else .inl (nI (aBest A x.toNatClampNeg h (aN A)))
def qHinders (x : Int32) (h : Nat) (A : Nat → Int32) : Int32 ⊕ Nat := if inn x 0 (A 0 - 1) = 0 then .inr 2 else .inl (sHind x.toNatClampNeg h A).1
def qDaysLeft (x : Int32) (A : Nat → Int32) : Int32 ⊕ Nat := if inn x 0 (A 0 - 1) = 0 then .inr 2 else if aT A x.toNatClampNeg 11 = -1 then .inr 5 else .inl (if 0 ≤ aT A x.toNatClampNeg 9 - A 1 + aT A x.toNatClampNeg 11 then aT A x.toNatClampNeg 9 - A 1 + aT A x.toNatClampNeg 11 else -1)
noncomputable def aAheadW (A : Nat → Int32) (a : Nat) : Int32 := cnt (fun b => if aEqW A a b = 0 then 0 else 1) a
noncomputable def aWords (A : Nat → Int32) : Int32 := cnt (fun a => if aAheadW A a = 0 then 1 else 0) (aN A)
noncomputable def qSharing (x : Int32) (A : Nat → Int32) : Int32 ⊕ Nat := if inn x 0 (A 0 - 1) = 0 then .inr 2 else .inl (cnt (fun t => if aEqW A x.toNatClampNeg t = 0 then 0 else 1) (aN A))
def aOftenT (A : Nat → Int32) (c : Int32) (t : Nat) : Int32 := cnt (fun k => if aL A t k = c then 1 else 0) (aLen A t)
def qOften (c : Int32) (A : Nat → Int32) : Int32 ⊕ Nat := if isLet c = 0 then .inr 1 else .inl (cnt (fun t => aOftenT A c t) (aN A))
def qRanked (m p : Int32) (A : Nat → Int32) : Int32 ⊕ Nat := if inn m 0 2 = 0 then .inr 1 else match (List.range (aN A)).find? (fun t => decide (aAhead A m t = p)) with
  | some t => .inl (nI t)
  | none => .inr 5
def okT (A : Nat → Int32) (t : Nat) : Prop := ¬ aDry A t 0 = 0 ∧ ¬ aDry A t 1 = 0 ∧ (aT A t 10 = 0 → aH A t 0 2 = aH A t 1 2)
noncomputable def aOK (A : Nat → Int32) : Int32 := match (List.range (aN A)).find? (fun t => @decide (¬ okT A t) (Classical.propDecidable _)) with
  | some _ => 0
  | none => 1
def qAccount (b len n : Int32) (A : Nat → Int32) : Int32 ⊕ Nat := if b = 0 then .inl (A 0) else if b = 1 then .inl (A 10) else if b = 2 then .inl (A 1) else if b = 3 then .inl (aOpen A) else if b = 4 then .inl (aTorn A) else if b = 5 then .inl (aLost A) else if b = 6 then .inl (aPunched A) else if b = 7 then .inl (aAllLeft A) else if b = 8 then .inl (A 2) else if b = 9 then .inl (A 3) else if b = 10 then .inl (A 4) else if b = 11 then .inl (A 5) else if b = 12 then .inl len else if b = 13 then .inl n else .inr 1
def aWetMany (A : Nat → Int32) : Int32 := cnt (fun t => aMeas A t 0) (aN A)
def qMeanWet (A : Nat → Int32) : UInt64 ⊕ Nat := if A 0 = 0 then .inr 3 else .inl (FP.ddiv (FP.i2d (aWetMany A)) (FP.i2d (2 * A 0)))
def qReadShare (A : Nat → Int32) : UInt32 ⊕ Nat := if aPunched A = 0 then .inr 3 else .inl (FP.fdiv (FP.i2f (aReadMany A)) (FP.i2f (aPunched A)))
def qRefusal (d why det : Int32) : Int32 ⊕ Nat := if why = 0 then .inr 0 else .inl (if d = 0 then why else det)
def qPos (p : Int32) : Int32 ⊕ Nat := if p = -1 then .inr 5 else .inl p
/-- a half that is there and punched -/
def hThere (x : Int32) (h : Nat) (A : Nat → Int32) : Int32 := if inn x 0 (A 0 - 1) = 0 then 1 else if pun A x.toNatClampNeg h = 0 then 2 else 0
theorem wK_l {α : Type} (es : List Nat) (v : α) : wK es (.inl v : α ⊕ Nat) = 0 := rfl
theorem qV_l (v : Int32) : qV (.inl v) = v := rfl
theorem qV_r (e : Nat) : qV (.inr e) = 0 := rfl
theorem i10 : ((1 : Int32) = 0) = False := eq_false (by decide)
theorem ile00 : ((0 : Int32) ≤ 0) = True := eq_true (by decide)
theorem ile10 : ((1 : Int32) ≤ 0) = False := eq_false (by decide)
theorem ile20 : ((2 : Int32) ≤ 0) = False := eq_false (by decide)
theorem ile30 : ((3 : Int32) ≤ 0) = False := eq_false (by decide)
theorem ilt00 : ((0 : Int32) < 0) = False := eq_false (by decide)
theorem ilt01 : ((0 : Int32) < 1) = True := eq_true (by decide)
