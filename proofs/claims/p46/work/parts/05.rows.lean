section FROWS
variable {X : FX} {cc : ByteArray} {nL : Nat} {own : String} {rm : Room} {l : Launch} {D : va_G} {cy : Nat → ClassId} {cells slots pc : Nat} {w : FW} {L : List (Nat × Value)} {st : List Value}
def fushr (x y : Int32) : Int32 := (x.toUInt32 >>> (y.toUInt32 &&& Int32.toUInt32 31)).toInt32
def fch (x : Int32) : Int32 := (x.toUInt32 % 65536).toInt32
def frem (x y : Int32) : Int32 := x - x / y * y
theorem nar_c {x : Int32} (h : fch x = x) : narrow .char (.int x) = .int x := by
  have e : narrow .char (.int x) = .int (vp_nar .char x) := rfl
  rw [e, vp_nar_char]
  congr 1
theorem nar_z {x : Int32} (h : x = 0 ∨ x = 1) : narrow .boolean (.int x) = .int x := by rcases h with rfl | rfl <;> decide
theorem f_iconst (hC : fOK X cc nL own rm l D cy) {i : Int} {v : Int32} (hd : decode cc pc = .ok (.iconst i, 1)) (hv : Int32.ofInt i = v) (k : fAt X cells slots nL w L (.int v :: st) (pc + 1)) : fAt X cells slots nL w L st pc := by
  obtain ⟨p, l', e, R, s, m, args, below, meth, c, Q, D', cy', A⟩ := X
  obtain ⟨hx, hb, hml, hown, hts, hE, hA, rfl, rfl, rfl, rfl⟩ := hC
  intro H locs ls h1 h2 h3 h4
  exact lv_iconst hx hb hd hv (k H locs ls h1 h2 h3 h4)
theorem f_bipush (hC : fOK X cc nL own rm l D cy) {i : Int} {v : Int32} (hd : decode cc pc = .ok (.bipush i, 2)) (hv : (Int8.ofInt i).toInt32 = v) (k : fAt X cells slots nL w L (.int v :: st) (pc + 2)) : fAt X cells slots nL w L st pc := by
  obtain ⟨p, l', e, R, s, m, args, below, meth, c, Q, D', cy', A⟩ := X
  obtain ⟨hx, hb, hml, hown, hts, hE, hA, rfl, rfl, rfl, rfl⟩ := hC
  intro H locs ls h1 h2 h3 h4
  exact lv_bipush hx hb hd hv (k H locs ls h1 h2 h3 h4)
theorem f_sipush (hC : fOK X cc nL own rm l D cy) {i : Int} {v : Int32} (hd : decode cc pc = .ok (.sipush i, 3)) (hv : (Int16.ofInt i).toInt32 = v) (k : fAt X cells slots nL w L (.int v :: st) (pc + 3)) : fAt X cells slots nL w L st pc := by
  obtain ⟨p, l', e, R, s, m, args, below, meth, c, Q, D', cy', A⟩ := X
  obtain ⟨hx, hb, hml, hown, hts, hE, hA, rfl, rfl, rfl, rfl⟩ := hC
  intro H locs ls h1 h2 h3 h4
  exact lv_sipush hx hb hd hv (k H locs ls h1 h2 h3 h4)
theorem f_lconst (hC : fOK X cc nL own rm l D cy) {i : Fin 2} {v : Int64} (hd : decode cc pc = .ok (.lconst i, 1)) (hv : Int64.ofNat (i : Nat) = v) (k : fAt X cells slots nL w L (.long v :: st) (pc + 1)) : fAt X cells slots nL w L st pc := by
  obtain ⟨p, l', e, R, s, m, args, below, meth, c, Q, D', cy', A⟩ := X
  obtain ⟨hx, hb, hml, hown, hts, hE, hA, rfl, rfl, rfl, rfl⟩ := hC
  intro H locs ls h1 h2 h3 h4
  exact lv_lconst hx hb hd hv (k H locs ls h1 h2 h3 h4)
theorem f_dconst (hC : fOK X cc nL own rm l D cy) (hd : decode cc pc = .ok (.dconst 0, 1)) (k : fAt X cells slots nL w L (.double 0 :: st) (pc + 1)) : fAt X cells slots nL w L st pc := by
  obtain ⟨p, l', e, R, s, m, args, below, meth, c, Q, D', cy', A⟩ := X
  obtain ⟨hx, hb, hml, hown, hts, hE, hA, rfl, rfl, rfl, rfl⟩ := hC
  intro H locs ls h1 h2 h3 h4
  exact lv_dconst0 hx hb hd (k H locs ls h1 h2 h3 h4)
theorem f_fconst (hC : fOK X cc nL own rm l D cy) (hd : decode cc pc = .ok (.fconst 0, 1)) (k : fAt X cells slots nL w L (.float 0 :: st) (pc + 1)) : fAt X cells slots nL w L st pc := by
  obtain ⟨p, l', e, R, s, m, args, below, meth, c, Q, D', cy', A⟩ := X
  obtain ⟨hx, hb, hml, hown, hts, hE, hA, rfl, rfl, rfl, rfl⟩ := hC
  intro H locs ls h1 h2 h3 h4
  exact lv_fconst0 hx hb hd (k H locs ls h1 h2 h3 h4)
theorem f_iload (hC : fOK X cc nL own rm l D cy) {i : Nat} {x : Int32} (hd : decode cc pc = .ok (.iload i, 2)) (q : Nat) (hl : L[q]? = some (i, .int x)) (k : fAt X cells slots nL w L (.int x :: st) (pc + 2)) : fAt X cells slots nL w L st pc := by
  obtain ⟨p, l', e, R, s, m, args, below, meth, c, Q, D', cy', A⟩ := X
  obtain ⟨hx, hb, hml, hown, hts, hE, hA, rfl, rfl, rfl, rfl⟩ := hC
  intro H locs ls h1 h2 h3 h4
  exact lv_iload hx hb hd (lv_at h4 q hl) (k H locs ls h1 h2 h3 h4)
theorem f_iload_n (hC : fOK X cc nL own rm l D cy) {j : Fin 4} {i : Nat} {x : Int32} (hd : decode cc pc = .ok (.iload_n j, 1)) (hi : (j : Nat) = i) (q : Nat) (hl : L[q]? = some (i, .int x)) (k : fAt X cells slots nL w L (.int x :: st) (pc + 1)) : fAt X cells slots nL w L st pc := by
  obtain ⟨p, l', e, R, s, m, args, below, meth, c, Q, D', cy', A⟩ := X
  obtain ⟨hx, hb, hml, hown, hts, hE, hA, rfl, rfl, rfl, rfl⟩ := hC
  intro H locs ls h1 h2 h3 h4
  exact lv_iload_n hx hb hd hi (lv_at h4 q hl) (k H locs ls h1 h2 h3 h4)
theorem f_istore (hC : fOK X cc nL own rm l D cy) {i : Nat} {x : Int32} {L' : List (Nat × Value)} (hd : decode cc pc = .ok (.istore i, 2)) (hn : i < nL) (hl : (i, Value.int x) :: L.filter (fun q => !(q.1 == i) && !(q.1 + 1 == i && q.2.category == 2)) = L') (k : fAt X cells slots nL w L' st (pc + 2)) : fAt X cells slots nL w L (.int x :: st) pc := by
  obtain ⟨p, l', e, R, s, m, args, below, meth, c, Q, D', cy', A⟩ := X
  obtain ⟨hx, hb, hml, hown, hts, hE, hA, rfl, rfl, rfl, rfl⟩ := hC
  intro H locs ls h1 h2 h3 h4
  exact lv_istore hx hb hd h4 hn hl (fun ls' h5 => k H locs ls' h1 h2 h3 h5)
theorem f_istore_n (hC : fOK X cc nL own rm l D cy) {j : Fin 4} {i : Nat} {x : Int32} {L' : List (Nat × Value)} (hd : decode cc pc = .ok (.istore_n j, 1)) (hi : (j : Nat) = i) (hn : i < nL) (hl : (i, Value.int x) :: L.filter (fun q => !(q.1 == i) && !(q.1 + 1 == i && q.2.category == 2)) = L') (k : fAt X cells slots nL w L' st (pc + 1)) : fAt X cells slots nL w L (.int x :: st) pc := by
  obtain ⟨p, l', e, R, s, m, args, below, meth, c, Q, D', cy', A⟩ := X
  obtain ⟨hx, hb, hml, hown, hts, hE, hA, rfl, rfl, rfl, rfl⟩ := hC
  intro H locs ls h1 h2 h3 h4
  exact lv_istore_n hx hb hd hi h4 hn hl (fun ls' h5 => k H locs ls' h1 h2 h3 h5)
theorem f_aload (hC : fOK X cc nL own rm l D cy) {i : Nat} {x : Nat} (hd : decode cc pc = .ok (.aload i, 2)) (q : Nat) (hl : L[q]? = some (i, .ref x)) (k : fAt X cells slots nL w L (.ref x :: st) (pc + 2)) : fAt X cells slots nL w L st pc := by
  obtain ⟨p, l', e, R, s, m, args, below, meth, c, Q, D', cy', A⟩ := X
  obtain ⟨hx, hb, hml, hown, hts, hE, hA, rfl, rfl, rfl, rfl⟩ := hC
  intro H locs ls h1 h2 h3 h4
  exact lv_aload hx hb hd (lv_at h4 q hl) (k H locs ls h1 h2 h3 h4)
theorem f_aload_n (hC : fOK X cc nL own rm l D cy) {j : Fin 4} {i : Nat} {x : Nat} (hd : decode cc pc = .ok (.aload_n j, 1)) (hi : (j : Nat) = i) (q : Nat) (hl : L[q]? = some (i, .ref x)) (k : fAt X cells slots nL w L (.ref x :: st) (pc + 1)) : fAt X cells slots nL w L st pc := by
  obtain ⟨p, l', e, R, s, m, args, below, meth, c, Q, D', cy', A⟩ := X
  obtain ⟨hx, hb, hml, hown, hts, hE, hA, rfl, rfl, rfl, rfl⟩ := hC
  intro H locs ls h1 h2 h3 h4
  exact lv_aload_n hx hb hd hi (lv_at h4 q hl) (k H locs ls h1 h2 h3 h4)
theorem f_astore (hC : fOK X cc nL own rm l D cy) {i : Nat} {x : Nat} {L' : List (Nat × Value)} (hd : decode cc pc = .ok (.astore i, 2)) (hn : i < nL) (hl : (i, Value.ref x) :: L.filter (fun q => !(q.1 == i) && !(q.1 + 1 == i && q.2.category == 2)) = L') (k : fAt X cells slots nL w L' st (pc + 2)) : fAt X cells slots nL w L (.ref x :: st) pc := by
  obtain ⟨p, l', e, R, s, m, args, below, meth, c, Q, D', cy', A⟩ := X
  obtain ⟨hx, hb, hml, hown, hts, hE, hA, rfl, rfl, rfl, rfl⟩ := hC
  intro H locs ls h1 h2 h3 h4
  exact lv_astore hx hb hd h4 hn hl (fun ls' h5 => k H locs ls' h1 h2 h3 h5)
theorem f_astore_n (hC : fOK X cc nL own rm l D cy) {j : Fin 4} {i : Nat} {x : Nat} {L' : List (Nat × Value)} (hd : decode cc pc = .ok (.astore_n j, 1)) (hi : (j : Nat) = i) (hn : i < nL) (hl : (i, Value.ref x) :: L.filter (fun q => !(q.1 == i) && !(q.1 + 1 == i && q.2.category == 2)) = L') (k : fAt X cells slots nL w L' st (pc + 1)) : fAt X cells slots nL w L (.ref x :: st) pc := by
  obtain ⟨p, l', e, R, s, m, args, below, meth, c, Q, D', cy', A⟩ := X
  obtain ⟨hx, hb, hml, hown, hts, hE, hA, rfl, rfl, rfl, rfl⟩ := hC
  intro H locs ls h1 h2 h3 h4
  exact lv_astore_n hx hb hd hi h4 hn hl (fun ls' h5 => k H locs ls' h1 h2 h3 h5)
theorem f_iinc (hC : fOK X cc nL own rm l D cy) {i : Nat} {d : Int} {x v : Int32} {L' : List (Nat × Value)} (hd : decode cc pc = .ok (.iinc i d, 3)) (q : Nat) (hq : L[q]? = some (i, .int x)) (hv : x + Int32.ofInt d = v) (hn : i < nL) (hl : (i, Value.int v) :: L.filter (fun q => !(q.1 == i) && !(q.1 + 1 == i && q.2.category == 2)) = L') (k : fAt X cells slots nL w L' st (pc + 3)) : fAt X cells slots nL w L st pc := by
  obtain ⟨p, l', e, R, s, m, args, below, meth, c, Q, D', cy', A⟩ := X
  obtain ⟨hx, hb, hml, hown, hts, hE, hA, rfl, rfl, rfl, rfl⟩ := hC
  intro H locs ls h1 h2 h3 h4
  exact lv_iinc hx hb hd h4 hq hv hn hl (fun ls' h5 => k H locs ls' h1 h2 h3 h5)
theorem f_iadd (hC : fOK X cc nL own rm l D cy) {x y : Int32} (hd : decode cc pc = .ok (.iadd, 1)) (k : fAt X cells slots nL w L (.int (x + y) :: st) (pc + 1)) : fAt X cells slots nL w L (.int y :: .int x :: st) pc := by
  obtain ⟨p, l', e, R, s, m, args, below, meth, c, Q, D', cy', A⟩ := X
  obtain ⟨hx, hb, hml, hown, hts, hE, hA, rfl, rfl, rfl, rfl⟩ := hC
  intro H locs ls h1 h2 h3 h4
  exact lv_iadd hx hb hd (k H locs ls h1 h2 h3 h4)
theorem f_isub (hC : fOK X cc nL own rm l D cy) {x y : Int32} (hd : decode cc pc = .ok (.isub, 1)) (k : fAt X cells slots nL w L (.int (x - y) :: st) (pc + 1)) : fAt X cells slots nL w L (.int y :: .int x :: st) pc := by
  obtain ⟨p, l', e, R, s, m, args, below, meth, c, Q, D', cy', A⟩ := X
  obtain ⟨hx, hb, hml, hown, hts, hE, hA, rfl, rfl, rfl, rfl⟩ := hC
  intro H locs ls h1 h2 h3 h4
  exact lv_isub hx hb hd (k H locs ls h1 h2 h3 h4)
theorem f_imul (hC : fOK X cc nL own rm l D cy) {x y : Int32} (hd : decode cc pc = .ok (.imul, 1)) (k : fAt X cells slots nL w L (.int (x * y) :: st) (pc + 1)) : fAt X cells slots nL w L (.int y :: .int x :: st) pc := by
  obtain ⟨p, l', e, R, s, m, args, below, meth, c, Q, D', cy', A⟩ := X
  obtain ⟨hx, hb, hml, hown, hts, hE, hA, rfl, rfl, rfl, rfl⟩ := hC
  intro H locs ls h1 h2 h3 h4
  exact lv_imul hx hb hd (k H locs ls h1 h2 h3 h4)
theorem f_iand (hC : fOK X cc nL own rm l D cy) {x y : Int32} (hd : decode cc pc = .ok (.iand, 1)) (k : fAt X cells slots nL w L (.int (x &&& y) :: st) (pc + 1)) : fAt X cells slots nL w L (.int y :: .int x :: st) pc := by
  obtain ⟨p, l', e, R, s, m, args, below, meth, c, Q, D', cy', A⟩ := X
  obtain ⟨hx, hb, hml, hown, hts, hE, hA, rfl, rfl, rfl, rfl⟩ := hC
  intro H locs ls h1 h2 h3 h4
  exact lv_iand hx hb hd (k H locs ls h1 h2 h3 h4)
theorem f_ixor (hC : fOK X cc nL own rm l D cy) {x y : Int32} (hd : decode cc pc = .ok (.ixor, 1)) (k : fAt X cells slots nL w L (.int (x ^^^ y) :: st) (pc + 1)) : fAt X cells slots nL w L (.int y :: .int x :: st) pc := by
  obtain ⟨p, l', e, R, s, m, args, below, meth, c, Q, D', cy', A⟩ := X
  obtain ⟨hx, hb, hml, hown, hts, hE, hA, rfl, rfl, rfl, rfl⟩ := hC
  intro H locs ls h1 h2 h3 h4
  exact lv_ixor hx hb hd (k H locs ls h1 h2 h3 h4)
theorem f_ishl (hC : fOK X cc nL own rm l D cy) {x y : Int32} (hd : decode cc pc = .ok (.ishl, 1)) (k : fAt X cells slots nL w L (.int (x <<< (y &&& 31)) :: st) (pc + 1)) : fAt X cells slots nL w L (.int y :: .int x :: st) pc := by
  obtain ⟨p, l', e, R, s, m, args, below, meth, c, Q, D', cy', A⟩ := X
  obtain ⟨hx, hb, hml, hown, hts, hE, hA, rfl, rfl, rfl, rfl⟩ := hC
  intro H locs ls h1 h2 h3 h4
  exact lv_ishl hx hb hd (k H locs ls h1 h2 h3 h4)
theorem f_ishr (hC : fOK X cc nL own rm l D cy) {x y : Int32} (hd : decode cc pc = .ok (.ishr, 1)) (k : fAt X cells slots nL w L (.int (x >>> (y &&& 31)) :: st) (pc + 1)) : fAt X cells slots nL w L (.int y :: .int x :: st) pc := by
  obtain ⟨p, l', e, R, s, m, args, below, meth, c, Q, D', cy', A⟩ := X
  obtain ⟨hx, hb, hml, hown, hts, hE, hA, rfl, rfl, rfl, rfl⟩ := hC
  intro H locs ls h1 h2 h3 h4
  exact lv_ishr hx hb hd (k H locs ls h1 h2 h3 h4)
theorem f_iushr (hC : fOK X cc nL own rm l D cy) {x y : Int32} (hd : decode cc pc = .ok (.iushr, 1)) (k : fAt X cells slots nL w L (.int (fushr x y) :: st) (pc + 1)) : fAt X cells slots nL w L (.int y :: .int x :: st) pc := by
  obtain ⟨p, l', e, R, s, m, args, below, meth, c, Q, D', cy', A⟩ := X
  obtain ⟨hx, hb, hml, hown, hts, hE, hA, rfl, rfl, rfl, rfl⟩ := hC
  intro H locs ls h1 h2 h3 h4
  exact lv_iushr hx hb hd rfl (k H locs ls h1 h2 h3 h4)
theorem f_ineg (hC : fOK X cc nL own rm l D cy) {x : Int32} (hd : decode cc pc = .ok (.ineg, 1)) (k : fAt X cells slots nL w L (.int (-x) :: st) (pc + 1)) : fAt X cells slots nL w L (.int x :: st) pc := by
  obtain ⟨p, l', e, R, s, m, args, below, meth, c, Q, D', cy', A⟩ := X
  obtain ⟨hx, hb, hml, hown, hts, hE, hA, rfl, rfl, rfl, rfl⟩ := hC
  intro H locs ls h1 h2 h3 h4
  exact lv_ineg hx hb hd (k H locs ls h1 h2 h3 h4)
theorem f_i2c (hC : fOK X cc nL own rm l D cy) {x : Int32} (hd : decode cc pc = .ok (.i2c, 1)) (k : fAt X cells slots nL w L (.int (fch x) :: st) (pc + 1)) : fAt X cells slots nL w L (.int x :: st) pc := by
  obtain ⟨p, l', e, R, s, m, args, below, meth, c, Q, D', cy', A⟩ := X
  obtain ⟨hx, hb, hml, hown, hts, hE, hA, rfl, rfl, rfl, rfl⟩ := hC
  intro H locs ls h1 h2 h3 h4
  exact lv_i2c hx hb hd rfl (k H locs ls h1 h2 h3 h4)
theorem f_idiv (hC : fOK X cc nL own rm l D cy) {x y : Int32} (hd : decode cc pc = .ok (.idiv, 1)) (hy : ¬ y = 0) (k : fAt X cells slots nL w L (.int (x / y) :: st) (pc + 1)) : fAt X cells slots nL w L (.int y :: .int x :: st) pc := by
  obtain ⟨p, l', e, R, s, m, args, below, meth, c, Q, D', cy', A⟩ := X
  obtain ⟨hx, hb, hml, hown, hts, hE, hA, rfl, rfl, rfl, rfl⟩ := hC
  intro H locs ls h1 h2 h3 h4
  exact lv_idiv hx hb hd hy (k H locs ls h1 h2 h3 h4)
theorem f_irem (hC : fOK X cc nL own rm l D cy) {x y : Int32} (hd : decode cc pc = .ok (.irem, 1)) (hy : ¬ y = 0) (k : fAt X cells slots nL w L (.int (frem x y) :: st) (pc + 1)) : fAt X cells slots nL w L (.int y :: .int x :: st) pc := by
  obtain ⟨p, l', e, R, s, m, args, below, meth, c, Q, D', cy', A⟩ := X
  obtain ⟨hx, hb, hml, hown, hts, hE, hA, rfl, rfl, rfl, rfl⟩ := hC
  intro H locs ls h1 h2 h3 h4
  exact lv_irem hx hb hd hy (k H locs ls h1 h2 h3 h4)
theorem f_i2l (hC : fOK X cc nL own rm l D cy) {x : Int32} (hd : decode cc pc = .ok (.i2l, 1)) (k : fAt X cells slots nL w L (.long x.toInt64 :: st) (pc + 1)) : fAt X cells slots nL w L (.int x :: st) pc := by
  obtain ⟨p, l', e, R, s, m, args, below, meth, c, Q, D', cy', A⟩ := X
  obtain ⟨hx, hb, hml, hown, hts, hE, hA, rfl, rfl, rfl, rfl⟩ := hC
  intro H locs ls h1 h2 h3 h4
  exact lv_i2l hx hb hd rfl (k H locs ls h1 h2 h3 h4)
theorem f_i2d (hC : fOK X cc nL own rm l D cy) {x : Int32} (hd : decode cc pc = .ok (.i2d, 1)) (k : fAt X cells slots nL w L (.double (FP.i2d x) :: st) (pc + 1)) : fAt X cells slots nL w L (.int x :: st) pc := by
  obtain ⟨p, l', e, R, s, m, args, below, meth, c, Q, D', cy', A⟩ := X
  obtain ⟨hx, hb, hml, hown, hts, hE, hA, rfl, rfl, rfl, rfl⟩ := hC
  intro H locs ls h1 h2 h3 h4
  exact lv_i2d hx hb hd (k H locs ls h1 h2 h3 h4)
theorem f_i2f (hC : fOK X cc nL own rm l D cy) {x : Int32} (hd : decode cc pc = .ok (.i2f, 1)) (k : fAt X cells slots nL w L (.float (FP.i2f x) :: st) (pc + 1)) : fAt X cells slots nL w L (.int x :: st) pc := by
  obtain ⟨p, l', e, R, s, m, args, below, meth, c, Q, D', cy', A⟩ := X
  obtain ⟨hx, hb, hml, hown, hts, hE, hA, rfl, rfl, rfl, rfl⟩ := hC
  intro H locs ls h1 h2 h3 h4
  exact lv_i2f hx hb hd (k H locs ls h1 h2 h3 h4)
theorem f_ddiv (hC : fOK X cc nL own rm l D cy) {x y : UInt64} (hd : decode cc pc = .ok (.ddiv, 1)) (hn : vf_n64 (FP.ddiv x y)) (k : fAt X cells slots nL w L (.double (FP.ddiv x y) :: st) (pc + 1)) : fAt X cells slots nL w L (.double y :: .double x :: st) pc := by
  obtain ⟨p, l', e, R, s, m, args, below, meth, c, Q, D', cy', A⟩ := X
  obtain ⟨hx, hb, hml, hown, hts, hE, hA, rfl, rfl, rfl, rfl⟩ := hC
  intro H locs ls h1 h2 h3 h4
  exact lv_ddiv hx hb hd hn (k H locs ls h1 h2 h3 h4)
theorem f_fdiv (hC : fOK X cc nL own rm l D cy) {x y : UInt32} (hd : decode cc pc = .ok (.fdiv, 1)) (hn : vf_n32 (FP.fdiv x y)) (k : fAt X cells slots nL w L (.float (FP.fdiv x y) :: st) (pc + 1)) : fAt X cells slots nL w L (.float y :: .float x :: st) pc := by
  obtain ⟨p, l', e, R, s, m, args, below, meth, c, Q, D', cy', A⟩ := X
  obtain ⟨hx, hb, hml, hown, hts, hE, hA, rfl, rfl, rfl, rfl⟩ := hC
  intro H locs ls h1 h2 h3 h4
  exact lv_fdiv hx hb hd hn (k H locs ls h1 h2 h3 h4)
theorem f_dup (hC : fOK X cc nL own rm l D cy) {v : Value} (hd : decode cc pc = .ok (.dup, 1)) (hv : v.category = 1) (k : fAt X cells slots nL w L (v :: v :: st) (pc + 1)) : fAt X cells slots nL w L (v :: st) pc := by
  obtain ⟨p, l', e, R, s, m, args, below, meth, c, Q, D', cy', A⟩ := X
  obtain ⟨hx, hb, hml, hown, hts, hE, hA, rfl, rfl, rfl, rfl⟩ := hC
  intro H locs ls h1 h2 h3 h4
  exact lv_dup hx hb hd hv (k H locs ls h1 h2 h3 h4)
theorem f_dup2 (hC : fOK X cc nL own rm l D cy) {v u : Value} (hd : decode cc pc = .ok (.dup2, 1)) (hv : v.category = 1) (hu : u.category = 1) (k : fAt X cells slots nL w L (v :: u :: v :: u :: st) (pc + 1)) : fAt X cells slots nL w L (v :: u :: st) pc := by
  obtain ⟨p, l', e, R, s, m, args, below, meth, c, Q, D', cy', A⟩ := X
  obtain ⟨hx, hb, hml, hown, hts, hE, hA, rfl, rfl, rfl, rfl⟩ := hC
  intro H locs ls h1 h2 h3 h4
  exact lv_dup2_11 hx hb hd hv hu (k H locs ls h1 h2 h3 h4)
theorem f_goto (hC : fOK X cc nL own rm l D cy) {off : Int} (tgt : Nat) (hd : decode cc pc = .ok (.goto off, 3)) (ht : (pc : Int) + off = (tgt : Int)) (k : fAt X cells slots nL w L st tgt) : fAt X cells slots nL w L st pc := by
  obtain ⟨p, l', e, R, s, m, args, below, meth, c, Q, D', cy', A⟩ := X
  obtain ⟨hx, hb, hml, hown, hts, hE, hA, rfl, rfl, rfl, rfl⟩ := hC
  intro H locs ls h1 h2 h3 h4
  exact lv_goto hx hb hd ht (k H locs ls h1 h2 h3 h4)
theorem f_if_eq (hC : fOK X cc nL own rm l D cy) {x : Int32} {off : Int} (tgt : Nat) (hd : decode cc pc = .ok (.ifCond .eq off, 3)) (ht : (pc : Int) + off = (tgt : Int)) (kt : x = 0 → fAt X cells slots nL w L st tgt) (kf : ¬ x = 0 → fAt X cells slots nL w L st (pc + 3)) : fAt X cells slots nL w L (.int x :: st) pc := by
  obtain ⟨p, l', e, R, s, m, args, below, meth, c, Q, D', cy', A⟩ := X
  obtain ⟨hx, hb, hml, hown, hts, hE, hA, rfl, rfl, rfl, rfl⟩ := hC
  intro H locs ls h1 h2 h3 h4
  exact lv_if_eq hx hb hd ht (fun hc => kt hc H locs ls h1 h2 h3 h4) (fun hc => kf hc H locs ls h1 h2 h3 h4)
theorem f_icmp_eq (hC : fOK X cc nL own rm l D cy) {x y : Int32} {off : Int} (tgt : Nat) (hd : decode cc pc = .ok (.if_icmp .eq off, 3)) (ht : (pc : Int) + off = (tgt : Int)) (kt : x = y → fAt X cells slots nL w L st tgt) (kf : ¬ x = y → fAt X cells slots nL w L st (pc + 3)) : fAt X cells slots nL w L (.int y :: .int x :: st) pc := by
  obtain ⟨p, l', e, R, s, m, args, below, meth, c, Q, D', cy', A⟩ := X
  obtain ⟨hx, hb, hml, hown, hts, hE, hA, rfl, rfl, rfl, rfl⟩ := hC
  intro H locs ls h1 h2 h3 h4
  exact lv_icmp_eq hx hb hd ht (fun hc => kt hc H locs ls h1 h2 h3 h4) (fun hc => kf hc H locs ls h1 h2 h3 h4)
theorem f_if_ne (hC : fOK X cc nL own rm l D cy) {x : Int32} {off : Int} (tgt : Nat) (hd : decode cc pc = .ok (.ifCond .ne off, 3)) (ht : (pc : Int) + off = (tgt : Int)) (kt : ¬ x = 0 → fAt X cells slots nL w L st tgt) (kf : x = 0 → fAt X cells slots nL w L st (pc + 3)) : fAt X cells slots nL w L (.int x :: st) pc := by
  obtain ⟨p, l', e, R, s, m, args, below, meth, c, Q, D', cy', A⟩ := X
  obtain ⟨hx, hb, hml, hown, hts, hE, hA, rfl, rfl, rfl, rfl⟩ := hC
  intro H locs ls h1 h2 h3 h4
  exact lv_if_ne hx hb hd ht (fun hc => kt hc H locs ls h1 h2 h3 h4) (fun hc => kf hc H locs ls h1 h2 h3 h4)
theorem f_icmp_ne (hC : fOK X cc nL own rm l D cy) {x y : Int32} {off : Int} (tgt : Nat) (hd : decode cc pc = .ok (.if_icmp .ne off, 3)) (ht : (pc : Int) + off = (tgt : Int)) (kt : ¬ x = y → fAt X cells slots nL w L st tgt) (kf : x = y → fAt X cells slots nL w L st (pc + 3)) : fAt X cells slots nL w L (.int y :: .int x :: st) pc := by
  obtain ⟨p, l', e, R, s, m, args, below, meth, c, Q, D', cy', A⟩ := X
  obtain ⟨hx, hb, hml, hown, hts, hE, hA, rfl, rfl, rfl, rfl⟩ := hC
  intro H locs ls h1 h2 h3 h4
  exact lv_icmp_ne hx hb hd ht (fun hc => kt hc H locs ls h1 h2 h3 h4) (fun hc => kf hc H locs ls h1 h2 h3 h4)
theorem f_if_lt (hC : fOK X cc nL own rm l D cy) {x : Int32} {off : Int} (tgt : Nat) (hd : decode cc pc = .ok (.ifCond .lt off, 3)) (ht : (pc : Int) + off = (tgt : Int)) (kt : x < 0 → fAt X cells slots nL w L st tgt) (kf : ¬ x < 0 → fAt X cells slots nL w L st (pc + 3)) : fAt X cells slots nL w L (.int x :: st) pc := by
  obtain ⟨p, l', e, R, s, m, args, below, meth, c, Q, D', cy', A⟩ := X
  obtain ⟨hx, hb, hml, hown, hts, hE, hA, rfl, rfl, rfl, rfl⟩ := hC
  intro H locs ls h1 h2 h3 h4
  exact lv_if_lt hx hb hd ht (fun hc => kt hc H locs ls h1 h2 h3 h4) (fun hc => kf hc H locs ls h1 h2 h3 h4)
theorem f_icmp_lt (hC : fOK X cc nL own rm l D cy) {x y : Int32} {off : Int} (tgt : Nat) (hd : decode cc pc = .ok (.if_icmp .lt off, 3)) (ht : (pc : Int) + off = (tgt : Int)) (kt : x < y → fAt X cells slots nL w L st tgt) (kf : ¬ x < y → fAt X cells slots nL w L st (pc + 3)) : fAt X cells slots nL w L (.int y :: .int x :: st) pc := by
  obtain ⟨p, l', e, R, s, m, args, below, meth, c, Q, D', cy', A⟩ := X
  obtain ⟨hx, hb, hml, hown, hts, hE, hA, rfl, rfl, rfl, rfl⟩ := hC
  intro H locs ls h1 h2 h3 h4
  exact lv_icmp_lt hx hb hd ht (fun hc => kt hc H locs ls h1 h2 h3 h4) (fun hc => kf hc H locs ls h1 h2 h3 h4)
theorem f_if_ge (hC : fOK X cc nL own rm l D cy) {x : Int32} {off : Int} (tgt : Nat) (hd : decode cc pc = .ok (.ifCond .ge off, 3)) (ht : (pc : Int) + off = (tgt : Int)) (kt : 0 ≤ x → fAt X cells slots nL w L st tgt) (kf : ¬ 0 ≤ x → fAt X cells slots nL w L st (pc + 3)) : fAt X cells slots nL w L (.int x :: st) pc := by
  obtain ⟨p, l', e, R, s, m, args, below, meth, c, Q, D', cy', A⟩ := X
  obtain ⟨hx, hb, hml, hown, hts, hE, hA, rfl, rfl, rfl, rfl⟩ := hC
  intro H locs ls h1 h2 h3 h4
  exact lv_if_ge hx hb hd ht (fun hc => kt hc H locs ls h1 h2 h3 h4) (fun hc => kf hc H locs ls h1 h2 h3 h4)
theorem f_icmp_ge (hC : fOK X cc nL own rm l D cy) {x y : Int32} {off : Int} (tgt : Nat) (hd : decode cc pc = .ok (.if_icmp .ge off, 3)) (ht : (pc : Int) + off = (tgt : Int)) (kt : y ≤ x → fAt X cells slots nL w L st tgt) (kf : ¬ y ≤ x → fAt X cells slots nL w L st (pc + 3)) : fAt X cells slots nL w L (.int y :: .int x :: st) pc := by
  obtain ⟨p, l', e, R, s, m, args, below, meth, c, Q, D', cy', A⟩ := X
  obtain ⟨hx, hb, hml, hown, hts, hE, hA, rfl, rfl, rfl, rfl⟩ := hC
  intro H locs ls h1 h2 h3 h4
  exact lv_icmp_ge hx hb hd ht (fun hc => kt hc H locs ls h1 h2 h3 h4) (fun hc => kf hc H locs ls h1 h2 h3 h4)
theorem f_if_gt (hC : fOK X cc nL own rm l D cy) {x : Int32} {off : Int} (tgt : Nat) (hd : decode cc pc = .ok (.ifCond .gt off, 3)) (ht : (pc : Int) + off = (tgt : Int)) (kt : 0 < x → fAt X cells slots nL w L st tgt) (kf : ¬ 0 < x → fAt X cells slots nL w L st (pc + 3)) : fAt X cells slots nL w L (.int x :: st) pc := by
  obtain ⟨p, l', e, R, s, m, args, below, meth, c, Q, D', cy', A⟩ := X
  obtain ⟨hx, hb, hml, hown, hts, hE, hA, rfl, rfl, rfl, rfl⟩ := hC
  intro H locs ls h1 h2 h3 h4
  exact lv_if_gt hx hb hd ht (fun hc => kt hc H locs ls h1 h2 h3 h4) (fun hc => kf hc H locs ls h1 h2 h3 h4)
theorem f_icmp_gt (hC : fOK X cc nL own rm l D cy) {x y : Int32} {off : Int} (tgt : Nat) (hd : decode cc pc = .ok (.if_icmp .gt off, 3)) (ht : (pc : Int) + off = (tgt : Int)) (kt : y < x → fAt X cells slots nL w L st tgt) (kf : ¬ y < x → fAt X cells slots nL w L st (pc + 3)) : fAt X cells slots nL w L (.int y :: .int x :: st) pc := by
  obtain ⟨p, l', e, R, s, m, args, below, meth, c, Q, D', cy', A⟩ := X
  obtain ⟨hx, hb, hml, hown, hts, hE, hA, rfl, rfl, rfl, rfl⟩ := hC
  intro H locs ls h1 h2 h3 h4
  exact lv_icmp_gt hx hb hd ht (fun hc => kt hc H locs ls h1 h2 h3 h4) (fun hc => kf hc H locs ls h1 h2 h3 h4)
theorem f_if_le (hC : fOK X cc nL own rm l D cy) {x : Int32} {off : Int} (tgt : Nat) (hd : decode cc pc = .ok (.ifCond .le off, 3)) (ht : (pc : Int) + off = (tgt : Int)) (kt : x ≤ 0 → fAt X cells slots nL w L st tgt) (kf : ¬ x ≤ 0 → fAt X cells slots nL w L st (pc + 3)) : fAt X cells slots nL w L (.int x :: st) pc := by
  obtain ⟨p, l', e, R, s, m, args, below, meth, c, Q, D', cy', A⟩ := X
  obtain ⟨hx, hb, hml, hown, hts, hE, hA, rfl, rfl, rfl, rfl⟩ := hC
  intro H locs ls h1 h2 h3 h4
  exact lv_if_le hx hb hd ht (fun hc => kt hc H locs ls h1 h2 h3 h4) (fun hc => kf hc H locs ls h1 h2 h3 h4)
theorem f_icmp_le (hC : fOK X cc nL own rm l D cy) {x y : Int32} {off : Int} (tgt : Nat) (hd : decode cc pc = .ok (.if_icmp .le off, 3)) (ht : (pc : Int) + off = (tgt : Int)) (kt : x ≤ y → fAt X cells slots nL w L st tgt) (kf : ¬ x ≤ y → fAt X cells slots nL w L st (pc + 3)) : fAt X cells slots nL w L (.int y :: .int x :: st) pc := by
  obtain ⟨p, l', e, R, s, m, args, below, meth, c, Q, D', cy', A⟩ := X
  obtain ⟨hx, hb, hml, hown, hts, hE, hA, rfl, rfl, rfl, rfl⟩ := hC
  intro H locs ls h1 h2 h3 h4
  exact lv_icmp_le hx hb hd ht (fun hc => kt hc H locs ls h1 h2 h3 h4) (fun hc => kf hc H locs ls h1 h2 h3 h4)
theorem f_tabIn (hC : fOK X cc nL own rm l D cy) {dflt lo hi : Int} {offs : Array Int} {len : Nat} {x : Int32} {off : Int} (tgt : Nat) (hd : decode cc pc = .ok (.tableswitch dflt lo hi offs, len)) (h9 : ¬ x.toInt < lo) (h8 : ¬ hi < x.toInt) (ho : offs[(x.toInt - lo).toNat]? = some off) (ht : (pc : Int) + off = (tgt : Int)) (k : fAt X cells slots nL w L st tgt) : fAt X cells slots nL w L (.int x :: st) pc := by
  obtain ⟨p, l', e, R, s, m, args, below, meth, c, Q, D', cy', A⟩ := X
  obtain ⟨hx, hb, hml, hown, hts, hE, hA, rfl, rfl, rfl, rfl⟩ := hC
  intro H locs ls h1 h2 h3 h4
  exact lv_tableIn hx hb hd h9 h8 ho ht (k H locs ls h1 h2 h3 h4)
theorem f_tabOut (hC : fOK X cc nL own rm l D cy) {dflt lo hi : Int} {offs : Array Int} {len : Nat} {x : Int32} (tgt : Nat) (hd : decode cc pc = .ok (.tableswitch dflt lo hi offs, len)) (h9 : x.toInt < lo ∨ hi < x.toInt) (ht : (pc : Int) + dflt = (tgt : Int)) (k : fAt X cells slots nL w L st tgt) : fAt X cells slots nL w L (.int x :: st) pc := by
  obtain ⟨p, l', e, R, s, m, args, below, meth, c, Q, D', cy', A⟩ := X
  obtain ⟨hx, hb, hml, hown, hts, hE, hA, rfl, rfl, rfl, rfl⟩ := hC
  intro H locs ls h1 h2 h3 h4
  exact lv_tableOut hx hb hd h9 ht (k H locs ls h1 h2 h3 h4)
theorem f_look (hC : fOK X cc nL own rm l D cy) {dflt : Int} {ps : Array (Int × Int)} {len : Nat} {x : Int32} {off : Int} (tgt : Nat) (hd : decode cc pc = .ok (.lookupswitch dflt ps, len)) (hp : (ps.toList.zip (ps.toList.drop 1)).all (fun (a, next) => a.1 < next.1) = true) (ho : Op.lookupswitch.offset ps.toList dflt x.toInt = off) (ht : (pc : Int) + off = (tgt : Int)) (k : fAt X cells slots nL w L st tgt) : fAt X cells slots nL w L (.int x :: st) pc := by
  obtain ⟨p, l', e, R, s, m, args, below, meth, c, Q, D', cy', A⟩ := X
  obtain ⟨hx, hb, hml, hown, hts, hE, hA, rfl, rfl, rfl, rfl⟩ := hC
  intro H locs ls h1 h2 h3 h4
  exact lv_lookup hx hb hd hp ho ht (k H locs ls h1 h2 h3 h4)
theorem f_sub {n : Nat} (ks : List Nat) {L' : List (Nat × Value)} (hl : lv_pick L ks = L') (k : fAt X cells slots n w L' st pc) : fAt X cells slots n w L st pc := by
  obtain ⟨p, l', e, R, s, m, args, below, meth, c, Q, D', cy', A⟩ := X
  intro H locs ls h1 h2 h3 h4
  exact k H locs ls h1 h2 h3 (lv_sub h4 ks hl)
theorem f_nm {n : Nat} {x : Int32} (k : ∀ y : Int32, y = x → fAt X cells slots n w L (.int y :: st) pc) : fAt X cells slots n w L (.int x :: st) pc := k x rfl
/-- an object's cell, by its kind -/
theorem FH.ob {D : va_G} {cy : Nat → ClassId} {w : FW} {H : Heap} {a ci : Nat} (h : FH D cy w H) (hk : w.1 a = ci + 1) (hc : ci < 7) : t_OB a (D.1 ci) (fN ci) (D.2 ci) H (fV w ci a) := (h.2 a).1 ci hk hc
theorem fV_I {w : FW} {ci a k cmp : Nat} (hr : fRf ci k = false) (hc : 100 * ci + k = cmp) : fV w ci a k = .int (gI w cmp a 0) := by subst hc; simp [fV, hr]
theorem fV_R {w : FW} {ci a k cmp : Nat} (hr : fRf ci k = true) (hc : 100 * ci + k = cmp) : fV w ci a k = .ref (gR w cmp a 0) := by subst hc; simp [fV, hr]
theorem f_getI (hC : fOK X cc nL own rm l D cy) {C : String} {T : u_T} {N a i : Nat} (ci j cmp : Nat) (hc : fCl[ci]? = some (C, T, N)) (hj : j < N) (hin : ∀ w ∈ u_ws C T N, w ∈ lwA) (hq : Cond.fieldLink own i (T j).1 (T j).2.1 (T j).2.2.1 ∈ lwA) (hcm : 100 * ci + j = cmp) (hr : fRf ci j = false) (hk : w.1 a = ci + 1) (hd : decode cc pc = .ok (.getfield i, 3)) (k : fAt X cells slots nL w L (.int (gI w cmp a 0) :: st) (pc + 3)) : fAt X cells slots nL w L (.ref a :: st) pc := by
  obtain ⟨p, l', e, R, s, m, args, below, meth, c, Q, D', cy', A⟩ := X
  obtain ⟨hx, hb, hml, hown, hts, hE, hA, rfl, rfl, rfl, rfl⟩ := hC
  intro H locs ls h1 h2 h3 h4
  obtain ⟨hN, hci⟩ := fN_ok hc
  obtain ⟨cell, q1, q2, q3, q4⟩ := h1.ob hk hci
  obtain ⟨hS, hfc, kC, hkC, hkind⟩ := hE.1.1 ci _ hc
  obtain ⟨cf, kf, fi, f, hi, hsl⟩ := hS j hj
  refine W.getf hx hb hown (hts _ hq) hi (u_facts hfc hkC (u_lays hts hin hj) hi).1 q1 (by rw [q3]; exact fun h => by cases h) (v := .int (gI w cmp a 0)) ?_ rfl rfl hd (k H locs ls h1 h2 h3 h4)
  rw [hsl, q4 j (by rw [hN]; exact hj), fV_I hr hcm]
theorem f_getIN (hC : fOK X cc nL own rm l D cy) {C host : String} {T : u_T} {N a i : Nat} (ci j cmp : Nat) (hc : fCl[ci]? = some (C, T, N)) (hj : j < N) (hin : ∀ w ∈ u_ws C T N, w ∈ lwA) (hq : Cond.fieldLinkNest own i (T j).1 (T j).2.1 (T j).2.2.1 host ∈ lwN) (hcm : 100 * ci + j = cmp) (hr : fRf ci j = false) (hk : w.1 a = ci + 1) (hd : decode cc pc = .ok (.getfield i, 3)) (k : fAt X cells slots nL w L (.int (gI w cmp a 0) :: st) (pc + 3)) : fAt X cells slots nL w L (.ref a :: st) pc := by
  obtain ⟨p, l', e, R, s, m, args, below, meth, c, Q, D', cy', A⟩ := X
  obtain ⟨hx, hb, hml, hown, hts, hE, hA, rfl, rfl, rfl, rfl⟩ := hC
  intro H locs ls h1 h2 h3 h4
  obtain ⟨hN, hci⟩ := fN_ok hc
  obtain ⟨cell, q1, q2, q3, q4⟩ := h1.ob hk hci
  obtain ⟨hS, hfc, kC, hkC, hkind⟩ := hE.1.1 ci _ hc
  obtain ⟨cf, kf, fi, f, hi, hsl⟩ := hS j hj
  refine va_Wgetf hx hb hown (va_Nw.use rfl (hE.2.1 _ hq)) hi (u_facts hfc hkC (u_lays hts hin hj) hi).1 q1 (by rw [q3]; exact fun h => by cases h) (v := .int (gI w cmp a 0)) ?_ rfl rfl hd (k H locs ls h1 h2 h3 h4)
  rw [hsl, q4 j (by rw [hN]; exact hj), fV_I hr hcm]
theorem f_getR (hC : fOK X cc nL own rm l D cy) {C : String} {T : u_T} {N a i : Nat} (ci j cmp : Nat) (hc : fCl[ci]? = some (C, T, N)) (hj : j < N) (hin : ∀ w ∈ u_ws C T N, w ∈ lwA) (hq : Cond.fieldLink own i (T j).1 (T j).2.1 (T j).2.2.1 ∈ lwA) (hcm : 100 * ci + j = cmp) (hr : fRf ci j = true) (hk : w.1 a = ci + 1) (hd : decode cc pc = .ok (.getfield i, 3)) (k : fAt X cells slots nL w L (.ref (gR w cmp a 0) :: st) (pc + 3)) : fAt X cells slots nL w L (.ref a :: st) pc := by
  obtain ⟨p, l', e, R, s, m, args, below, meth, c, Q, D', cy', A⟩ := X
  obtain ⟨hx, hb, hml, hown, hts, hE, hA, rfl, rfl, rfl, rfl⟩ := hC
  intro H locs ls h1 h2 h3 h4
  obtain ⟨hN, hci⟩ := fN_ok hc
  obtain ⟨cell, q1, q2, q3, q4⟩ := h1.ob hk hci
  obtain ⟨hS, hfc, kC, hkC, hkind⟩ := hE.1.1 ci _ hc
  obtain ⟨cf, kf, fi, f, hi, hsl⟩ := hS j hj
  refine W.getf hx hb hown (hts _ hq) hi (u_facts hfc hkC (u_lays hts hin hj) hi).1 q1 (by rw [q3]; exact fun h => by cases h) (v := .ref (gR w cmp a 0)) ?_ rfl rfl hd (k H locs ls h1 h2 h3 h4)
  rw [hsl, q4 j (by rw [hN]; exact hj), fV_R hr hcm]
theorem f_getRN (hC : fOK X cc nL own rm l D cy) {C host : String} {T : u_T} {N a i : Nat} (ci j cmp : Nat) (hc : fCl[ci]? = some (C, T, N)) (hj : j < N) (hin : ∀ w ∈ u_ws C T N, w ∈ lwA) (hq : Cond.fieldLinkNest own i (T j).1 (T j).2.1 (T j).2.2.1 host ∈ lwN) (hcm : 100 * ci + j = cmp) (hr : fRf ci j = true) (hk : w.1 a = ci + 1) (hd : decode cc pc = .ok (.getfield i, 3)) (k : fAt X cells slots nL w L (.ref (gR w cmp a 0) :: st) (pc + 3)) : fAt X cells slots nL w L (.ref a :: st) pc := by
  obtain ⟨p, l', e, R, s, m, args, below, meth, c, Q, D', cy', A⟩ := X
  obtain ⟨hx, hb, hml, hown, hts, hE, hA, rfl, rfl, rfl, rfl⟩ := hC
  intro H locs ls h1 h2 h3 h4
  obtain ⟨hN, hci⟩ := fN_ok hc
  obtain ⟨cell, q1, q2, q3, q4⟩ := h1.ob hk hci
  obtain ⟨hS, hfc, kC, hkC, hkind⟩ := hE.1.1 ci _ hc
  obtain ⟨cf, kf, fi, f, hi, hsl⟩ := hS j hj
  refine va_Wgetf hx hb hown (va_Nw.use rfl (hE.2.1 _ hq)) hi (u_facts hfc hkC (u_lays hts hin hj) hi).1 q1 (by rw [q3]; exact fun h => by cases h) (v := .ref (gR w cmp a 0)) ?_ rfl rfl hd (k H locs ls h1 h2 h3 h4)
  rw [hsl, q4 j (by rw [hN]; exact hj), fV_R hr hcm]
theorem f_putI (hC : fOK X cc nL own rm l D cy) {C : String} {T : u_T} {N a i : Nat} {v : Int32} (ci j cmp : Nat) (hc : fCl[ci]? = some (C, T, N)) (hj : j < N) (hin : ∀ w ∈ u_ws C T N, w ∈ lwA) (ty0 : Nat → FieldType) (hty : ∀ k, k < N → parseFieldDescriptor (T k).2.2.1 = some (ty0 k)) (hnm : ∀ a, a < N → ∀ b, b < N → a ≠ b → (T a).2.1 ≠ (T b).2.1) (hq : Cond.fieldLink own i (T j).1 (T j).2.1 (T j).2.2.1 ∈ lwA) (hcm : 100 * ci + j = cmp) (hr : fRf ci j = false) (hfin : (T j).2.2.2 = false) (hn : narrow (ty0 j) (.int v) = .int v) (hfit : fits (ty0 j) (.int v) = true) (hk : w.1 a = ci + 1) (hd : decode cc pc = .ok (.putfield i, 3)) (k : fAt X cells slots nL (sI w cmp a 0 v) L st (pc + 3)) : fAt X cells slots nL w L (.int v :: .ref a :: st) pc := by
  obtain ⟨p, l', e, R, s, m, args, below, meth, c, Q, D', cy', A⟩ := X
  obtain ⟨hx, hb, hml, hown, hts, hE, hA, rfl, rfl, rfl, rfl⟩ := hC
  intro H locs ls h1 h2 h3 h4
  obtain ⟨hN, hci⟩ := fN_ok hc
  have hap := va_apart (own := own) hts hin ty0 hty hnm hE.1 hc
  obtain ⟨cell, q1, q2, q3, q4⟩ := h1.ob hk hci
  obtain ⟨hS, hfc, kC, hkC, hkind⟩ := hE.1.1 ci _ hc
  obtain ⟨cf, kf, fi, f, hi, hsl⟩ := hS j hj
  have hap' : ∀ a b, a < fN ci → b < fN ci → a ≠ b → D'.2 ci a ≠ D'.2 ci b := by rw [hN]; exact hap
  have hlay := hts _ (hin _ (u_in_lay hj))
  unfold u_lay at hlay
  rw [if_neg (by rw [hfin]; decide)] at hlay
  have hst := (u_facts hfc hkC (u_lays hts hin hj) hi).1
  have h6 := u_store hfc hkC hkind hlay hi (hty j hj) hn hfit
  refine W.putK hx hb (f := f) ⟨hown, hts _ hq, ⟨_, _, _, hi⟩, hst⟩ (by rw [q2]; exact h6) q1 q3 (by rw [hsl]; exact k2_hasslot (q4 j (by rw [hN]; exact hj))) rfl rfl hd (fun H' e1 e2 e3 => ?_)
  rw [hsl] at e1 ⊢
  have ha : A a := h2 a (by rw [hk]; omega)
  refine k H' _ ls (h1.put (w' := sI w cmp a 0 v) (a := a) rfl rfl (fun q c i hq => gI_n (fun z => hq z.2.1)) (fun q c i _ => rfl) e2 e3 (fat_ob hk hci ?_)) h2 (h3.put e2 e3 ha) h4
  refine t_OB.to (V := updV (fV w ci a) j (.int v)) ⟨_, e1, q2, q3, t_set q4 hap' (by rw [hN]; exact hj) _⟩ (fun j' hj' => ?_)
  subst hcm
  by_cases ej : j' = j
  · subst ej
    simp [updV, fV, hr, gI_s]
  · rw [show updV (fV w ci a) j (.int v) j' = fV w ci a j' from by simp [updV, ej]]
    unfold fV
    by_cases er : fRf ci j' = true
    · rw [if_pos er, if_pos er]
      rw [show gR (sI w (100 * ci + j) a 0 v) (100 * ci + j') a 0 = gR w (100 * ci + j') a 0 from rfl]
    · rw [if_neg er, if_neg er]
      rw [gI_n (fun z => ej (by omega))]
theorem f_putIN (hC : fOK X cc nL own rm l D cy) {C host : String} {T : u_T} {N a i : Nat} {v : Int32} (ci j cmp : Nat) (hc : fCl[ci]? = some (C, T, N)) (hj : j < N) (hin : ∀ w ∈ u_ws C T N, w ∈ lwA) (ty0 : Nat → FieldType) (hty : ∀ k, k < N → parseFieldDescriptor (T k).2.2.1 = some (ty0 k)) (hnm : ∀ a, a < N → ∀ b, b < N → a ≠ b → (T a).2.1 ≠ (T b).2.1) (hq : Cond.fieldLinkNest own i (T j).1 (T j).2.1 (T j).2.2.1 host ∈ lwN) (hcm : 100 * ci + j = cmp) (hr : fRf ci j = false) (hfin : (T j).2.2.2 = false) (hn : narrow (ty0 j) (.int v) = .int v) (hfit : fits (ty0 j) (.int v) = true) (hk : w.1 a = ci + 1) (hd : decode cc pc = .ok (.putfield i, 3)) (k : fAt X cells slots nL (sI w cmp a 0 v) L st (pc + 3)) : fAt X cells slots nL w L (.int v :: .ref a :: st) pc := by
  obtain ⟨p, l', e, R, s, m, args, below, meth, c, Q, D', cy', A⟩ := X
  obtain ⟨hx, hb, hml, hown, hts, hE, hA, rfl, rfl, rfl, rfl⟩ := hC
  intro H locs ls h1 h2 h3 h4
  obtain ⟨hN, hci⟩ := fN_ok hc
  have hap := va_apart (own := own) hts hin ty0 hty hnm hE.1 hc
  obtain ⟨cell, q1, q2, q3, q4⟩ := h1.ob hk hci
  obtain ⟨hS, hfc, kC, hkC, hkind⟩ := hE.1.1 ci _ hc
  obtain ⟨cf, kf, fi, f, hi, hsl⟩ := hS j hj
  have hap' : ∀ a b, a < fN ci → b < fN ci → a ≠ b → D'.2 ci a ≠ D'.2 ci b := by rw [hN]; exact hap
  have hlay := hts _ (hin _ (u_in_lay hj))
  unfold u_lay at hlay
  rw [if_neg (by rw [hfin]; decide)] at hlay
  have hst := (u_facts hfc hkC (u_lays hts hin hj) hi).1
  have h6 := u_store hfc hkC hkind hlay hi (hty j hj) hn hfit
  refine va_WputK hx hb (f := f) hown (va_Nw.use rfl (hE.2.1 _ hq)) hi hst (by rw [q2]; exact h6) q1 q3 (by rw [hsl]; exact k2_hasslot (q4 j (by rw [hN]; exact hj))) rfl rfl hd (fun H' e1 e2 e3 => ?_)
  rw [hsl] at e1 ⊢
  have ha : A a := h2 a (by rw [hk]; omega)
  refine k H' _ ls (h1.put (w' := sI w cmp a 0 v) (a := a) rfl rfl (fun q c i hq => gI_n (fun z => hq z.2.1)) (fun q c i _ => rfl) e2 e3 (fat_ob hk hci ?_)) h2 (h3.put e2 e3 ha) h4
  refine t_OB.to (V := updV (fV w ci a) j (.int v)) ⟨_, e1, q2, q3, t_set q4 hap' (by rw [hN]; exact hj) _⟩ (fun j' hj' => ?_)
  subst hcm
  by_cases ej : j' = j
  · subst ej
    simp [updV, fV, hr, gI_s]
  · rw [show updV (fV w ci a) j (.int v) j' = fV w ci a j' from by simp [updV, ej]]
    unfold fV
    by_cases er : fRf ci j' = true
    · rw [if_pos er, if_pos er]
      rw [show gR (sI w (100 * ci + j) a 0 v) (100 * ci + j') a 0 = gR w (100 * ci + j') a 0 from rfl]
    · rw [if_neg er, if_neg er]
      rw [gI_n (fun z => ej (by omega))]
theorem f_putR (hC : fOK X cc nL own rm l D cy) {C : String} {T : u_T} {N a i : Nat} {v : Nat} (ci j cmp : Nat) (hc : fCl[ci]? = some (C, T, N)) (hj : j < N) (hin : ∀ w ∈ u_ws C T N, w ∈ lwA) (ty0 : Nat → FieldType) (hty : ∀ k, k < N → parseFieldDescriptor (T k).2.2.1 = some (ty0 k)) (hnm : ∀ a, a < N → ∀ b, b < N → a ≠ b → (T a).2.1 ≠ (T b).2.1) (hq : Cond.fieldLink own i (T j).1 (T j).2.1 (T j).2.2.1 ∈ lwA) (hcm : 100 * ci + j = cmp) (hr : fRf ci j = true) (hfin : (T j).2.2.2 = false) (hn : narrow (ty0 j) (.ref v) = .ref v) (hfit : fits (ty0 j) (.ref v) = true) (hk : w.1 a = ci + 1) (hd : decode cc pc = .ok (.putfield i, 3)) (k : fAt X cells slots nL (sR w cmp a 0 v) L st (pc + 3)) : fAt X cells slots nL w L (.ref v :: .ref a :: st) pc := by
  obtain ⟨p, l', e, R, s, m, args, below, meth, c, Q, D', cy', A⟩ := X
  obtain ⟨hx, hb, hml, hown, hts, hE, hA, rfl, rfl, rfl, rfl⟩ := hC
  intro H locs ls h1 h2 h3 h4
  obtain ⟨hN, hci⟩ := fN_ok hc
  have hap := va_apart (own := own) hts hin ty0 hty hnm hE.1 hc
  obtain ⟨cell, q1, q2, q3, q4⟩ := h1.ob hk hci
  obtain ⟨hS, hfc, kC, hkC, hkind⟩ := hE.1.1 ci _ hc
  obtain ⟨cf, kf, fi, f, hi, hsl⟩ := hS j hj
  have hap' : ∀ a b, a < fN ci → b < fN ci → a ≠ b → D'.2 ci a ≠ D'.2 ci b := by rw [hN]; exact hap
  have hlay := hts _ (hin _ (u_in_lay hj))
  unfold u_lay at hlay
  rw [if_neg (by rw [hfin]; decide)] at hlay
  have hst := (u_facts hfc hkC (u_lays hts hin hj) hi).1
  have h6 := u_store hfc hkC hkind hlay hi (hty j hj) hn hfit
  refine W.putK hx hb (f := f) ⟨hown, hts _ hq, ⟨_, _, _, hi⟩, hst⟩ (by rw [q2]; exact h6) q1 q3 (by rw [hsl]; exact k2_hasslot (q4 j (by rw [hN]; exact hj))) rfl rfl hd (fun H' e1 e2 e3 => ?_)
  rw [hsl] at e1 ⊢
  have ha : A a := h2 a (by rw [hk]; omega)
  refine k H' _ ls (h1.put (w' := sR w cmp a 0 v) (a := a) rfl rfl (fun q c i _ => rfl) (fun q c i hq => gR_n (fun z => hq z.2.1)) e2 e3 (fat_ob hk hci ?_)) h2 (h3.put e2 e3 ha) h4
  refine t_OB.to (V := updV (fV w ci a) j (.ref v)) ⟨_, e1, q2, q3, t_set q4 hap' (by rw [hN]; exact hj) _⟩ (fun j' hj' => ?_)
  subst hcm
  by_cases ej : j' = j
  · subst ej
    simp [updV, fV, hr, gR_s]
  · rw [show updV (fV w ci a) j (.ref v) j' = fV w ci a j' from by simp [updV, ej]]
    unfold fV
    by_cases er : fRf ci j' = true
    · rw [if_pos er, if_pos er]
      rw [gR_n (fun z => ej (by omega))]
    · rw [if_neg er, if_neg er]
      rw [show gI (sR w (100 * ci + j) a 0 v) (100 * ci + j') a 0 = gI w (100 * ci + j') a 0 from rfl]
theorem f_putRN (hC : fOK X cc nL own rm l D cy) {C host : String} {T : u_T} {N a i : Nat} {v : Nat} (ci j cmp : Nat) (hc : fCl[ci]? = some (C, T, N)) (hj : j < N) (hin : ∀ w ∈ u_ws C T N, w ∈ lwA) (ty0 : Nat → FieldType) (hty : ∀ k, k < N → parseFieldDescriptor (T k).2.2.1 = some (ty0 k)) (hnm : ∀ a, a < N → ∀ b, b < N → a ≠ b → (T a).2.1 ≠ (T b).2.1) (hq : Cond.fieldLinkNest own i (T j).1 (T j).2.1 (T j).2.2.1 host ∈ lwN) (hcm : 100 * ci + j = cmp) (hr : fRf ci j = true) (hfin : (T j).2.2.2 = false) (hn : narrow (ty0 j) (.ref v) = .ref v) (hfit : fits (ty0 j) (.ref v) = true) (hk : w.1 a = ci + 1) (hd : decode cc pc = .ok (.putfield i, 3)) (k : fAt X cells slots nL (sR w cmp a 0 v) L st (pc + 3)) : fAt X cells slots nL w L (.ref v :: .ref a :: st) pc := by
  obtain ⟨p, l', e, R, s, m, args, below, meth, c, Q, D', cy', A⟩ := X
  obtain ⟨hx, hb, hml, hown, hts, hE, hA, rfl, rfl, rfl, rfl⟩ := hC
  intro H locs ls h1 h2 h3 h4
  obtain ⟨hN, hci⟩ := fN_ok hc
  have hap := va_apart (own := own) hts hin ty0 hty hnm hE.1 hc
  obtain ⟨cell, q1, q2, q3, q4⟩ := h1.ob hk hci
  obtain ⟨hS, hfc, kC, hkC, hkind⟩ := hE.1.1 ci _ hc
  obtain ⟨cf, kf, fi, f, hi, hsl⟩ := hS j hj
  have hap' : ∀ a b, a < fN ci → b < fN ci → a ≠ b → D'.2 ci a ≠ D'.2 ci b := by rw [hN]; exact hap
  have hlay := hts _ (hin _ (u_in_lay hj))
  unfold u_lay at hlay
  rw [if_neg (by rw [hfin]; decide)] at hlay
  have hst := (u_facts hfc hkC (u_lays hts hin hj) hi).1
  have h6 := u_store hfc hkC hkind hlay hi (hty j hj) hn hfit
  refine va_WputK hx hb (f := f) hown (va_Nw.use rfl (hE.2.1 _ hq)) hi hst (by rw [q2]; exact h6) q1 q3 (by rw [hsl]; exact k2_hasslot (q4 j (by rw [hN]; exact hj))) rfl rfl hd (fun H' e1 e2 e3 => ?_)
  rw [hsl] at e1 ⊢
  have ha : A a := h2 a (by rw [hk]; omega)
  refine k H' _ ls (h1.put (w' := sR w cmp a 0 v) (a := a) rfl rfl (fun q c i _ => rfl) (fun q c i hq => gR_n (fun z => hq z.2.1)) e2 e3 (fat_ob hk hci ?_)) h2 (h3.put e2 e3 ha) h4
  refine t_OB.to (V := updV (fV w ci a) j (.ref v)) ⟨_, e1, q2, q3, t_set q4 hap' (by rw [hN]; exact hj) _⟩ (fun j' hj' => ?_)
  subst hcm
  by_cases ej : j' = j
  · subst ej
    simp [updV, fV, hr, gR_s]
  · rw [show updV (fV w ci a) j (.ref v) j' = fV w ci a j' from by simp [updV, ej]]
    unfold fV
    by_cases er : fRf ci j' = true
    · rw [if_pos er, if_pos er]
      rw [gR_n (fun z => ej (by omega))]
    · rw [if_neg er, if_neg er]
      rw [show gI (sR w (100 * ci + j) a 0 v) (100 * ci + j') a 0 = gI w (100 * ci + j') a 0 from rfl]
theorem f_cald (hC : fOK X cc nL own rm l D cy) {a : Nat} {i : Int32} (hk : w.1 a = 10) (hin : vp_in i (w.2.1 a)) (hd : decode cc pc = .ok (.caload, 1)) (k : fAt X cells slots nL w L (.int (gI w 600 a i.toNatClampNeg) :: st) (pc + 1)) : fAt X cells slots nL w L (.int i :: .ref a :: st) pc := by
  obtain ⟨p, l', e, R, s, m, args, below, meth, c, Q, D', cy', A⟩ := X
  obtain ⟨hx, hb, hml, hown, hts, hE, hA, rfl, rfl, rfl, rfl⟩ := hC
  intro H locs ls h1 h2 h3 h4
  have hlt : i.toNatClampNeg < w.2.1 a := Nat.not_le.mp fun q => hin (Or.inr q)
  exact W.cald (v := .int (gI w 600 a i.toNatClampNeg)) hx hb ((h1.2 a).2.1 0 hk (by decide)) ((hE.1.2 0 _ rfl).1 _ _) (fun q => by cases q) (by show ¬ (i < 0 ∨ (arrV _ _ _).slots.size ≤ _); rw [arrV_size]; exact hin) (by show (arrV _ _ _).slots[_]? = _; rw [arrV_read _ _ hlt]) rfl rfl hd (k H locs ls h1 h2 h3 h4)
theorem f_iald (hC : fOK X cc nL own rm l D cy) {a : Nat} {i : Int32} (hk : w.1 a = 11) (hin : vp_in i (w.2.1 a)) (hd : decode cc pc = .ok (.iaload, 1)) (k : fAt X cells slots nL w L (.int (gI w 601 a i.toNatClampNeg) :: st) (pc + 1)) : fAt X cells slots nL w L (.int i :: .ref a :: st) pc := by
  obtain ⟨p, l', e, R, s, m, args, below, meth, c, Q, D', cy', A⟩ := X
  obtain ⟨hx, hb, hml, hown, hts, hE, hA, rfl, rfl, rfl, rfl⟩ := hC
  intro H locs ls h1 h2 h3 h4
  have hlt : i.toNatClampNeg < w.2.1 a := Nat.not_le.mp fun q => hin (Or.inr q)
  exact W.iald (v := .int (gI w 601 a i.toNatClampNeg)) hx hb ((h1.2 a).2.1 1 hk (by decide)) ((hE.1.2 1 _ rfl).1 _ _) (fun q => by cases q) (by show ¬ (i < 0 ∨ (arrV _ _ _).slots.size ≤ _); rw [arrV_size]; exact hin) (by show (arrV _ _ _).slots[_]? = _; rw [arrV_read _ _ hlt]) rfl rfl hd (k H locs ls h1 h2 h3 h4)
theorem f_zald (hC : fOK X cc nL own rm l D cy) {a : Nat} {i : Int32} (hk : w.1 a = 12) (hin : vp_in i (w.2.1 a)) (hd : decode cc pc = .ok (.baload, 1)) (k : fAt X cells slots nL w L (.int (gI w 602 a i.toNatClampNeg) :: st) (pc + 1)) : fAt X cells slots nL w L (.int i :: .ref a :: st) pc := by
  obtain ⟨p, l', e, R, s, m, args, below, meth, c, Q, D', cy', A⟩ := X
  obtain ⟨hx, hb, hml, hown, hts, hE, hA, rfl, rfl, rfl, rfl⟩ := hC
  intro H locs ls h1 h2 h3 h4
  have hlt : i.toNatClampNeg < w.2.1 a := Nat.not_le.mp fun q => hin (Or.inr q)
  exact W.zald (v := .int (gI w 602 a i.toNatClampNeg)) hx hb ((h1.2 a).2.1 2 hk (by decide)) ((hE.1.2 2 _ rfl).1 _ _) (fun q => by cases q) (by show ¬ (i < 0 ∨ (arrV _ _ _).slots.size ≤ _); rw [arrV_size]; exact hin) (by show (arrV _ _ _).slots[_]? = _; rw [arrV_read _ _ hlt]) rfl rfl hd (k H locs ls h1 h2 h3 h4)
theorem f_aald0 (hC : fOK X cc nL own rm l D cy) {a : Nat} {i : Int32} (hk : w.1 a = 13) (hin : vp_in i (w.2.1 a)) (hd : decode cc pc = .ok (.aaload, 1)) (k : fAt X cells slots nL w L (.ref (gR w 603 a i.toNatClampNeg) :: st) (pc + 1)) : fAt X cells slots nL w L (.int i :: .ref a :: st) pc := by
  obtain ⟨p, l', e, R, s, m, args, below, meth, c, Q, D', cy', A⟩ := X
  obtain ⟨hx, hb, hml, hown, hts, hE, hA, rfl, rfl, rfl, rfl⟩ := hC
  intro H locs ls h1 h2 h3 h4
  have hlt : i.toNatClampNeg < w.2.1 a := Nat.not_le.mp fun q => hin (Or.inr q)
  exact W.aald (v := .ref (gR w 603 a i.toNatClampNeg)) (ty := .object RX1) hx hb ((h1.2 a).2.2 0 hk (by decide)) ((hE.1.2 3 _ rfl).1 _ _) rfl (fun q => by cases q) (by show ¬ (i < 0 ∨ (arrV _ _ _).slots.size ≤ _); rw [arrV_size]; exact hin) (by show (arrV _ _ _).slots[_]? = _; rw [arrV_read _ _ hlt]) rfl rfl hd (k H locs ls h1 h2 h3 h4)
theorem f_aald1 (hC : fOK X cc nL own rm l D cy) {a : Nat} {i : Int32} (hk : w.1 a = 14) (hin : vp_in i (w.2.1 a)) (hd : decode cc pc = .ok (.aaload, 1)) (k : fAt X cells slots nL w L (.ref (gR w 604 a i.toNatClampNeg) :: st) (pc + 1)) : fAt X cells slots nL w L (.int i :: .ref a :: st) pc := by
  obtain ⟨p, l', e, R, s, m, args, below, meth, c, Q, D', cy', A⟩ := X
  obtain ⟨hx, hb, hml, hown, hts, hE, hA, rfl, rfl, rfl, rfl⟩ := hC
  intro H locs ls h1 h2 h3 h4
  have hlt : i.toNatClampNeg < w.2.1 a := Nat.not_le.mp fun q => hin (Or.inr q)
  exact W.aald (v := .ref (gR w 604 a i.toNatClampNeg)) (ty := .object RX2) hx hb ((h1.2 a).2.2 1 hk (by decide)) ((hE.1.2 4 _ rfl).1 _ _) rfl (fun q => by cases q) (by show ¬ (i < 0 ∨ (arrV _ _ _).slots.size ≤ _); rw [arrV_size]; exact hin) (by show (arrV _ _ _).slots[_]? = _; rw [arrV_read _ _ hlt]) rfl rfl hd (k H locs ls h1 h2 h3 h4)
theorem f_cast (hC : fOK X cc nL own rm l D cy) {a : Nat} {i x : Int32} (hx9 : fch x = x) (hk : w.1 a = 10) (hin : vp_in i (w.2.1 a)) (hd : decode cc pc = .ok (.castore, 1)) (k : fAt X cells slots nL (sI w 600 a i.toNatClampNeg x) L st (pc + 1)) : fAt X cells slots nL w L (.int x :: .int i :: .ref a :: st) pc := by
  obtain ⟨p, l', e, R, s, m, args, below, meth, c, Q, D', cy', A⟩ := X
  obtain ⟨hx, hb, hml, hown, hts, hE, hA, rfl, rfl, rfl, rfl⟩ := hC
  intro H locs ls h1 h2 h3 h4
  refine W.cast hx hb ((h1.2 a).2.1 0 hk (by decide)) ((hE.1.2 0 _ rfl).1 _ _) (fun q => by cases q) (by show ¬ (i < 0 ∨ (arrV _ _ _).slots.size ≤ _); rw [arrV_size]; exact hin) rfl rfl hd fun H1 e9 z oq => ?_
  have ha : A a := h2 a (by rw [hk]; decide)
  refine k H1 _ ls (h1.put (w' := sI w 600 a i.toNatClampNeg x) (a := a) rfl rfl (fun q c i hq => gI_n (fun z => hq z.2.1)) (fun q c i _ => rfl) z oq (fat_ai (j := 0) hk (by decide) ?_)) h2 (h3.put z oq ha) h4
  show H1[a]? = some (arrV _ _ _)
  rw [e9, arrV_store]
  congr 2
  funext q
  by_cases hq : q = i.toNatClampNeg
  · subst hq
    simp [updV, gI_s, nar_c hx9]
  · simp only [updV, if_neg hq]
    rw [gI_n (fun z => hq z.2.2)]
theorem f_iast (hC : fOK X cc nL own rm l D cy) {a : Nat} {i x : Int32} (hk : w.1 a = 11) (hin : vp_in i (w.2.1 a)) (hd : decode cc pc = .ok (.iastore, 1)) (k : fAt X cells slots nL (sI w 601 a i.toNatClampNeg x) L st (pc + 1)) : fAt X cells slots nL w L (.int x :: .int i :: .ref a :: st) pc := by
  obtain ⟨p, l', e, R, s, m, args, below, meth, c, Q, D', cy', A⟩ := X
  obtain ⟨hx, hb, hml, hown, hts, hE, hA, rfl, rfl, rfl, rfl⟩ := hC
  intro H locs ls h1 h2 h3 h4
  refine W.iast hx hb ((h1.2 a).2.1 1 hk (by decide)) ((hE.1.2 1 _ rfl).1 _ _) (fun q => by cases q) (by show ¬ (i < 0 ∨ (arrV _ _ _).slots.size ≤ _); rw [arrV_size]; exact hin) rfl rfl hd fun H1 e9 z oq => ?_
  have ha : A a := h2 a (by rw [hk]; decide)
  refine k H1 _ ls (h1.put (w' := sI w 601 a i.toNatClampNeg x) (a := a) rfl rfl (fun q c i hq => gI_n (fun z => hq z.2.1)) (fun q c i _ => rfl) z oq (fat_ai (j := 1) hk (by decide) ?_)) h2 (h3.put z oq ha) h4
  show H1[a]? = some (arrV _ _ _)
  rw [e9, arrV_store]
  congr 2
  funext q
  by_cases hq : q = i.toNatClampNeg
  · subst hq
    simp [updV, gI_s]
  · simp only [updV, if_neg hq]
    rw [gI_n (fun z => hq z.2.2)]
theorem f_zast (hC : fOK X cc nL own rm l D cy) {a : Nat} {i x : Int32} (hx9 : x = 0 ∨ x = 1) (hk : w.1 a = 12) (hin : vp_in i (w.2.1 a)) (hd : decode cc pc = .ok (.bastore, 1)) (k : fAt X cells slots nL (sI w 602 a i.toNatClampNeg x) L st (pc + 1)) : fAt X cells slots nL w L (.int x :: .int i :: .ref a :: st) pc := by
  obtain ⟨p, l', e, R, s, m, args, below, meth, c, Q, D', cy', A⟩ := X
  obtain ⟨hx, hb, hml, hown, hts, hE, hA, rfl, rfl, rfl, rfl⟩ := hC
  intro H locs ls h1 h2 h3 h4
  refine W.zast hx hb ((h1.2 a).2.1 2 hk (by decide)) ((hE.1.2 2 _ rfl).1 _ _) (fun q => by cases q) (by show ¬ (i < 0 ∨ (arrV _ _ _).slots.size ≤ _); rw [arrV_size]; exact hin) rfl rfl hd fun H1 e9 z oq => ?_
  have ha : A a := h2 a (by rw [hk]; decide)
  refine k H1 _ ls (h1.put (w' := sI w 602 a i.toNatClampNeg x) (a := a) rfl rfl (fun q c i hq => gI_n (fun z => hq z.2.1)) (fun q c i _ => rfl) z oq (fat_ai (j := 2) hk (by decide) ?_)) h2 (h3.put z oq ha) h4
  show H1[a]? = some (arrV _ _ _)
  rw [e9, arrV_store]
  congr 2
  funext q
  by_cases hq : q = i.toNatClampNeg
  · subst hq
    simp [updV, gI_s, nar_z hx9]
  · simp only [updV, if_neg hq]
    rw [gI_n (fun z => hq z.2.2)]
theorem f_aast0 (hC : fOK X cc nL own rm l D cy) {a v : Nat} {i : Int32} (hk : w.1 a = 13) (hv : w.1 v = 2) (hin : vp_in i (w.2.1 a)) (hd : decode cc pc = .ok (.aastore, 1)) (k : fAt X cells slots nL (sR w 603 a i.toNatClampNeg v) L st (pc + 1)) : fAt X cells slots nL w L (.ref v :: .int i :: .ref a :: st) pc := by
  obtain ⟨p, l', e, R, s, m, args, below, meth, c, Q, D', cy', A⟩ := X
  obtain ⟨hx, hb, hml, hown, hts, hE, hA, rfl, rfl, rfl, rfl⟩ := hC
  intro H locs ls h1 h2 h3 h4
  have hlt : i.toNatClampNeg < w.2.1 a := Nat.not_le.mp fun q => hin (Or.inr q)
  have h0 : ¬ i < 0 := fun q => hin (Or.inl q)
  obtain ⟨cellV, g1, g2, g3, -⟩ := h1.ob (ci := 1) hv (by decide)
  have hcls := (hE.1.1 1 _ rfl).2
  obtain ⟨kA, comp, k1, k2, k3, -⟩ := (hE.1.2 3 _ rfl).2
  have hcomp : comp = D'.1 1 := Option.some.inj (k3.symm.trans hcls.1)
  subst hcomp
  obtain ⟨kC, hkC, -⟩ := hcls.2
  have ha : A a := h2 a (by rw [hk]; decide)
  refine W.aast hx hb ((h1.2 a).2.2 0 hk (by decide)) (fun q h => by cases h) (fun h => by cases h) k1 k2 rfl hkC ⟨h0, by show _ < (arrV _ _ _).slots.size; rw [arrV_size]; exact hlt⟩ g1 (fun q h => by rw [g3] at h; cases h) (by rw [g2]; exact hkC) (by rw [g2]; exact va_assign hcls) rfl rfl hd fun H1 e9 z oq => ?_
  refine k H1 _ ls (h1.put (w' := sR w 603 a i.toNatClampNeg v) (a := a) rfl rfl (fun q c i _ => rfl) (fun q c i hq => gR_n (fun z => hq z.2.1)) z oq (fat_ar (j := 0) hk (by decide) ?_)) h2 (h3.put z oq ha) h4
  show H1[a]? = some (arrV _ _ _)
  rw [e9, arrV_store]
  congr 2
  funext q
  by_cases hq : q = i.toNatClampNeg
  · subst hq
    simp [updV, gR_s]
  · simp only [updV, if_neg hq]
    rw [gR_n (fun z => hq z.2.2)]
theorem f_aast1 (hC : fOK X cc nL own rm l D cy) {a v : Nat} {i : Int32} (hk : w.1 a = 14) (hv : w.1 v = 3) (hin : vp_in i (w.2.1 a)) (hd : decode cc pc = .ok (.aastore, 1)) (k : fAt X cells slots nL (sR w 604 a i.toNatClampNeg v) L st (pc + 1)) : fAt X cells slots nL w L (.ref v :: .int i :: .ref a :: st) pc := by
  obtain ⟨p, l', e, R, s, m, args, below, meth, c, Q, D', cy', A⟩ := X
  obtain ⟨hx, hb, hml, hown, hts, hE, hA, rfl, rfl, rfl, rfl⟩ := hC
  intro H locs ls h1 h2 h3 h4
  have hlt : i.toNatClampNeg < w.2.1 a := Nat.not_le.mp fun q => hin (Or.inr q)
  have h0 : ¬ i < 0 := fun q => hin (Or.inl q)
  obtain ⟨cellV, g1, g2, g3, -⟩ := h1.ob (ci := 2) hv (by decide)
  have hcls := (hE.1.1 2 _ rfl).2
  obtain ⟨kA, comp, k1, k2, k3, -⟩ := (hE.1.2 4 _ rfl).2
  have hcomp : comp = D'.1 2 := Option.some.inj (k3.symm.trans hcls.1)
  subst hcomp
  obtain ⟨kC, hkC, -⟩ := hcls.2
  have ha : A a := h2 a (by rw [hk]; decide)
  refine W.aast hx hb ((h1.2 a).2.2 1 hk (by decide)) (fun q h => by cases h) (fun h => by cases h) k1 k2 rfl hkC ⟨h0, by show _ < (arrV _ _ _).slots.size; rw [arrV_size]; exact hlt⟩ g1 (fun q h => by rw [g3] at h; cases h) (by rw [g2]; exact hkC) (by rw [g2]; exact va_assign hcls) rfl rfl hd fun H1 e9 z oq => ?_
  refine k H1 _ ls (h1.put (w' := sR w 604 a i.toNatClampNeg v) (a := a) rfl rfl (fun q c i _ => rfl) (fun q c i hq => gR_n (fun z => hq z.2.1)) z oq (fat_ar (j := 1) hk (by decide) ?_)) h2 (h3.put z oq ha) h4
  show H1[a]? = some (arrV _ _ _)
  rw [e9, arrV_store]
  congr 2
  funext q
  by_cases hq : q = i.toNatClampNeg
  · subst hq
    simp [updV, gR_s]
  · simp only [updV, if_neg hq]
    rw [gR_n (fun z => hq z.2.2)]
theorem f_iret {v : Int32} (hC : fOK X cc nL own rm l D cy) {cells slots : Nat} {w0 : FW} (hEn : fEnd X (some .int) (some (.int v)) w0 w cells slots) (hs : fSm w w0) (hd : decode cc pc = .ok (.ireturn, 1)) : fAt X cells slots nL w L [.int v] pc := by
  obtain ⟨p, l', e, R, s, m, args, below, meth, c, Q, D', cy', A⟩ := X
  obtain ⟨hx, hb, hml, hown, hts, hE, hA, rfl, rfl, rfl, rfl⟩ := hC
  intro H locs ls h1 h2 h3 h4
  obtain ⟨r1, r2, rfl⟩ := hEn
  exact W.iret hx hb r1 (fun t ht hW => ⟨rfl, by rw [ht]; exact h1, hs, h3.F ht⟩) h3.2.2 hd r2
theorem f_zret {v : Int32} {ty : FieldType} (hC : fOK X cc nL own rm l D cy) {cells slots : Nat} {w0 : FW} (hEn : fEnd X (some ty) (some (.int v)) w0 w cells slots) (hs : fSm w w0) (hn : narrow ty (.int v) = .int v) (hd : decode cc pc = .ok (.ireturn, 1)) : fAt X cells slots nL w L [.int v] pc := by
  obtain ⟨p, l', e, R, s, m, args, below, meth, c, Q, D', cy', A⟩ := X
  obtain ⟨hx, hb, hml, hown, hts, hE, hA, rfl, rfl, rfl, rfl⟩ := hC
  intro H locs ls h1 h2 h3 h4
  obtain ⟨r1, r2, rfl⟩ := hEn
  exact W.zret hx hb r1 hn (fun t ht hW => ⟨rfl, by rw [ht]; exact h1, hs, h3.F ht⟩) h3.2.2 hd r2
theorem f_vret (hC : fOK X cc nL own rm l D cy) {cells slots : Nat} {w0 : FW} (hEn : fEnd X none none w0 w cells slots) (hs : fSm w w0) (hd : decode cc pc = .ok (.return_, 1)) : fAt X cells slots nL w L [] pc := by
  obtain ⟨p, l', e, R, s, m, args, below, meth, c, Q, D', cy', A⟩ := X
  obtain ⟨hx, hb, hml, hown, hts, hE, hA, rfl, rfl, rfl, rfl⟩ := hC
  intro H locs ls h1 h2 h3 h4
  obtain ⟨r1, r2, rfl⟩ := hEn
  exact W.vret hx hb r1 (fun t ht hW => ⟨rfl, by rw [ht]; exact h1, hs, h3.F ht⟩) h3.2.2 hd r2
theorem f_aret {v : Nat} {C : String} (hC : fOK X cc nL own rm l D cy) {cells slots : Nat} {w0 : FW} (hEn : fEnd X (some (.object C)) (some (.ref v)) w0 w cells slots) (hs : fSm w w0) (hd : decode cc pc = .ok (.areturn, 1)) : fAt X cells slots nL w L [.ref v] pc := by
  obtain ⟨p, l', e, R, s, m, args, below, meth, c, Q, D', cy', A⟩ := X
  obtain ⟨hx, hb, hml, hown, hts, hE, hA, rfl, rfl, rfl, rfl⟩ := hC
  intro H locs ls h1 h2 h3 h4
  obtain ⟨r1, r2, rfl⟩ := hEn
  exact W.aret hx hb r1 (Or.inl ⟨_, rfl⟩) (Or.inr ⟨_, rfl⟩) (fun t ht hW => ⟨rfl, by rw [ht]; exact h1, hs, h3.F ht⟩) h3.2.2 hd r2
theorem f_dret {v : UInt64} (hC : fOK X cc nL own rm l D cy) {cells slots : Nat} {w0 : FW} (hEn : fEnd X (some .double) (some (.double v)) w0 w cells slots) (hs : fSm w w0) (hd : decode cc pc = .ok (.dreturn, 1)) : fAt X cells slots nL w L [.double v] pc := by
  obtain ⟨p, l', e, R, s, m, args, below, meth, c, Q, D', cy', A⟩ := X
  obtain ⟨hx, hb, hml, hown, hts, hE, hA, rfl, rfl, rfl, rfl⟩ := hC
  intro H locs ls h1 h2 h3 h4
  obtain ⟨r1, r2, rfl⟩ := hEn
  exact W.dret hx hb r1 (fun t ht hW => ⟨rfl, by rw [ht]; exact h1, hs, h3.F ht⟩) h3.2.2 hd r2
theorem f_fret {v : UInt32} (hC : fOK X cc nL own rm l D cy) {cells slots : Nat} {w0 : FW} (hEn : fEnd X (some .float) (some (.float v)) w0 w cells slots) (hs : fSm w w0) (hd : decode cc pc = .ok (.freturn, 1)) : fAt X cells slots nL w L [.float v] pc := by
  obtain ⟨p, l', e, R, s, m, args, below, meth, c, Q, D', cy', A⟩ := X
  obtain ⟨hx, hb, hml, hown, hts, hE, hA, rfl, rfl, rfl, rfl⟩ := hC
  intro H locs ls h1 h2 h3 h4
  obtain ⟨r1, r2, rfl⟩ := hEn
  exact W.fret hx hb r1 (fun t ht hW => ⟨rfl, by rw [ht]; exact h1, hs, h3.F ht⟩) h3.2.2 hd r2
end FROWS
