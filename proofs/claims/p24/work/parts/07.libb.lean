/-! LIB B: an instruction, a row -/
theorem x_val {l : Launch} {D : va_G} {e0 : Nat} {own : String} {cc : ByteArray} {nL : Nat} {ret : Option FieldType} {hh : List (Nat × Nat × Nat × Nat)} {R : Room} {G : xGt} {X : xXt} (B : xB l D e0 own cc nL ret hh R G X) {pc : Nat} {lv : List (Nat × Value)} {st : List Value} {cs : List va_W} {k n : Nat} {x y : Int32} (h : x = y) (kk : G pc lv (.int y :: st) cs k n) : G pc lv (.int x :: st) cs k n := h ▸ kk
theorem x_wid {l : Launch} {D : va_G} {e0 : Nat} {own : String} {cc : ByteArray} {nL : Nat} {ret : Option FieldType} {hh : List (Nat × Nat × Nat × Nat)} {R : Room} {G : xGt} {X : xXt} (B : xB l D e0 own cc nL ret hh R G X) {pc : Nat} {lv : List (Nat × Value)} {st : List Value} {cs : List va_W} {k n : Nat} (k1 n1 : Nat) (h1 : k ≤ k1) (h2 : n ≤ n1) (kk : G pc lv st cs k1 n1) : G pc lv st cs k n := by
  obtain ⟨p, e, s, m, args, below, meth, c, A, Q, rfl, rfl, hx, hb, hml, hown, hts, hret, htab, hZ, hA, hlk, htr⟩ := B
  intro H locs ls hP hD hS hL
  exact W.widen h1 h2 (kk H locs ls hP hD hS hL)
theorem x_lv {l : Launch} {D : va_G} {e0 : Nat} {own : String} {cc : ByteArray} {nL : Nat} {ret : Option FieldType} {hh : List (Nat × Nat × Nat × Nat)} {R : Room} {G : xGt} {X : xXt} (B : xB l D e0 own cc nL ret hh R G X) {pc : Nat} {lv : List (Nat × Value)} {st : List Value} {cs : List va_W} {k n : Nat} (js : List Nat) (lv1 : List (Nat × Value)) (h : lv_pick lv js = lv1) (kk : G pc lv1 st cs k n) : G pc lv st cs k n := by
  obtain ⟨p, e, s, m, args, below, meth, c, A, Q, rfl, rfl, hx, hb, hml, hown, hts, hret, htab, hZ, hA, hlk, htr⟩ := B
  intro H locs ls hP hD hS hL
  exact kk H locs ls hP hD hS (lv_sub hL js h)
theorem x_perm {l : Launch} {D : va_G} {e0 : Nat} {own : String} {cc : ByteArray} {nL : Nat} {ret : Option FieldType} {hh : List (Nat × Nat × Nat × Nat)} {R : Room} {G : xGt} {X : xXt} (B : xB l D e0 own cc nL ret hh R G X) {pc : Nat} {lv : List (Nat × Value)} {st : List Value} {cs : List va_W} {k n : Nat} {cs1 : List va_W} (h : List.Perm cs.flatten cs1.flatten) (kk : G pc lv st cs1 k n) : G pc lv st cs k n := by
  obtain ⟨p, e, s, m, args, below, meth, c, A, Q, rfl, rfl, hx, hb, hml, hown, hts, hret, htab, hZ, hA, hlk, htr⟩ := B
  intro H locs ls hP hD hS hL
  exact kk H locs ls (xP_perm h hP) (xD_perm h hD) hS hL
theorem x_flat {l : Launch} {D : va_G} {e0 : Nat} {own : String} {cc : ByteArray} {nL : Nat} {ret : Option FieldType} {hh : List (Nat × Nat × Nat × Nat)} {R : Room} {G : xGt} {X : xXt} (B : xB l D e0 own cc nL ret hh R G X) {pc : Nat} {lv : List (Nat × Value)} {st : List Value} {cs : List va_W} {k n : Nat} {cs1 : List va_W} (h : cs.flatten = cs1.flatten) (kk : G pc lv st cs1 k n) : G pc lv st cs k n := x_perm B (List.Perm.of_eq h) kk
theorem x_drop {l : Launch} {D : va_G} {e0 : Nat} {own : String} {cc : ByteArray} {nL : Nat} {ret : Option FieldType} {hh : List (Nat × Nat × Nat × Nat)} {R : Room} {G : xGt} {X : xXt} (B : xB l D e0 own cc nL ret hh R G X) {pc : Nat} {lv : List (Nat × Value)} {st : List Value} {cs : List va_W} {k n : Nat} (is : List Nat) (cs1 : List va_W) (h : is.map (fun i => cs[i]?) = cs1.map some) (hn : va_nd is = true) (kk : G pc lv st cs1 k n) : G pc lv st cs k n := by
  obtain ⟨p, e, s, m, args, below, meth, c, A, Q, rfl, rfl, hx, hb, hml, hown, hts, hret, htab, hZ, hA, hlk, htr⟩ := B
  intro H locs ls hP hD hS hL
  obtain ⟨hP1, hD1⟩ := xpick hP hD h hn
  exact kk H locs ls hP1 hD1 hS hL
theorem x_world {l : Launch} {D : va_G} {e0 : Nat} {own : String} {cc : ByteArray} {nL : Nat} {ret : Option FieldType} {hh : List (Nat × Nat × Nat × Nat)} {R : Room} {G : xGt} {X : xXt} (B : xB l D e0 own cc nL ret hh R G X) {pc : Nat} {lv : List (Nat × Value)} {st : List Value} {cs : List va_W} {k n : Nat} (kk : (cs.flatten.Pairwise (fun p q => p.1 ≠ q.1)) → G pc lv st cs k n) : G pc lv st cs k n := by
  obtain ⟨p, e, s, m, args, below, meth, c, A, Q, rfl, rfl, hx, hb, hml, hown, hts, hret, htab, hZ, hA, hlk, htr⟩ := B
  intro H locs ls hP hD hS hL
  exact kk (xD_iff.mp hD).1 H locs ls hP hD hS hL
theorem x_iconst {l : Launch} {D : va_G} {e0 : Nat} {own : String} {cc : ByteArray} {nL : Nat} {ret : Option FieldType} {hh : List (Nat × Nat × Nat × Nat)} {R : Room} {G : xGt} {X : xXt} (B : xB l D e0 own cc nL ret hh R G X) {pc : Nat} {lv : List (Nat × Value)} {st : List Value} {cs : List va_W} {k n : Nat}  {i : Int} (v : Int32) (hdg : decode cc pc = .ok (.iconst i, 1)) (hv : Int32.ofInt i = v) (kk : G (pc + 1) lv (.int v :: st) cs k n) : G pc lv st cs k n := by
  obtain ⟨p, e, s, m, args, below, meth, c, A, Q, rfl, rfl, hx, hb, hml, hown, hts, hret, htab, hZ, hA, hlk, htr⟩ := B
  intro H locs ls hP hD hS hL
  exact lv_iconst hx hb hdg hv (kk H locs ls hP hD hS hL)
theorem x_bipush {l : Launch} {D : va_G} {e0 : Nat} {own : String} {cc : ByteArray} {nL : Nat} {ret : Option FieldType} {hh : List (Nat × Nat × Nat × Nat)} {R : Room} {G : xGt} {X : xXt} (B : xB l D e0 own cc nL ret hh R G X) {pc : Nat} {lv : List (Nat × Value)} {st : List Value} {cs : List va_W} {k n : Nat}  {i : Int} (v : Int32) (hdg : decode cc pc = .ok (.bipush i, 2)) (hv : (Int8.ofInt i).toInt32 = v) (kk : G (pc + 2) lv (.int v :: st) cs k n) : G pc lv st cs k n := by
  obtain ⟨p, e, s, m, args, below, meth, c, A, Q, rfl, rfl, hx, hb, hml, hown, hts, hret, htab, hZ, hA, hlk, htr⟩ := B
  intro H locs ls hP hD hS hL
  exact lv_bipush hx hb hdg hv (kk H locs ls hP hD hS hL)
theorem x_sipush {l : Launch} {D : va_G} {e0 : Nat} {own : String} {cc : ByteArray} {nL : Nat} {ret : Option FieldType} {hh : List (Nat × Nat × Nat × Nat)} {R : Room} {G : xGt} {X : xXt} (B : xB l D e0 own cc nL ret hh R G X) {pc : Nat} {lv : List (Nat × Value)} {st : List Value} {cs : List va_W} {k n : Nat}  {i : Int} (v : Int32) (hdg : decode cc pc = .ok (.sipush i, 3)) (hv : (Int16.ofInt i).toInt32 = v) (kk : G (pc + 3) lv (.int v :: st) cs k n) : G pc lv st cs k n := by
  obtain ⟨p, e, s, m, args, below, meth, c, A, Q, rfl, rfl, hx, hb, hml, hown, hts, hret, htab, hZ, hA, hlk, htr⟩ := B
  intro H locs ls hP hD hS hL
  exact lv_sipush hx hb hdg hv (kk H locs ls hP hD hS hL)
theorem x_ldc {l : Launch} {D : va_G} {e0 : Nat} {own : String} {cc : ByteArray} {nL : Nat} {ret : Option FieldType} {hh : List (Nat × Nat × Nat × Nat)} {R : Room} {G : xGt} {X : xXt} (B : xB l D e0 own cc nL ret hh R G X) {pc : Nat} {lv : List (Nat × Value)} {st : List Value} {cs : List va_W} {k n : Nat}  {index : Nat} {v : Int32} (hw : Cond.constant own index v ∈ lw_tbl) (hdg : decode cc pc = .ok (.ldc index, 2)) (kk : G (pc + 2) lv (.int v :: st) cs k n) : G pc lv st cs k n := by
  obtain ⟨p, e, s, m, args, below, meth, c, A, Q, rfl, rfl, hx, hb, hml, hown, hts, hret, htab, hZ, hA, hlk, htr⟩ := B
  intro H locs ls hP hD hS hL
  exact lv_ldc hx hb hown (hts _ (xT_mem hw rfl)) hdg (kk H locs ls hP hD hS hL)
theorem x_null {l : Launch} {D : va_G} {e0 : Nat} {own : String} {cc : ByteArray} {nL : Nat} {ret : Option FieldType} {hh : List (Nat × Nat × Nat × Nat)} {R : Room} {G : xGt} {X : xXt} (B : xB l D e0 own cc nL ret hh R G X) {pc : Nat} {lv : List (Nat × Value)} {st : List Value} {cs : List va_W} {k n : Nat}  (hdg : decode cc pc = .ok (.aconst_null, 1)) (kk : G (pc + 1) lv (.null :: st) cs k n) : G pc lv st cs k n := by
  obtain ⟨p, e, s, m, args, below, meth, c, A, Q, rfl, rfl, hx, hb, hml, hown, hts, hret, htab, hZ, hA, hlk, htr⟩ := B
  intro H locs ls hP hD hS hL
  exact lv_null hx hb hdg (kk H locs ls hP hD hS hL)
theorem x_iload_n {l : Launch} {D : va_G} {e0 : Nat} {own : String} {cc : ByteArray} {nL : Nat} {ret : Option FieldType} {hh : List (Nat × Nat × Nat × Nat)} {R : Room} {G : xGt} {X : xXt} (B : xB l D e0 own cc nL ret hh R G X) {pc : Nat} {lv : List (Nat × Value)} {st : List Value} {cs : List va_W} {k n : Nat}  {k9 : Fin 4} {i : Nat} {x : Int32} (j : Nat) (hdg : decode cc pc = .ok (.iload_n k9, 1)) (hi : (k9 : Nat) = i) (hl : lv[j]? = some (i, .int x)) (kk : G (pc + 1) lv (.int x :: st) cs k n) : G pc lv st cs k n := by
  obtain ⟨p, e, s, m, args, below, meth, c, A, Q, rfl, rfl, hx, hb, hml, hown, hts, hret, htab, hZ, hA, hlk, htr⟩ := B
  intro H locs ls hP hD hS hL
  exact lv_iload_n hx hb hdg hi (lv_at hL j hl) (kk H locs ls hP hD hS hL)
theorem x_iload {l : Launch} {D : va_G} {e0 : Nat} {own : String} {cc : ByteArray} {nL : Nat} {ret : Option FieldType} {hh : List (Nat × Nat × Nat × Nat)} {R : Room} {G : xGt} {X : xXt} (B : xB l D e0 own cc nL ret hh R G X) {pc : Nat} {lv : List (Nat × Value)} {st : List Value} {cs : List va_W} {k n : Nat}  {i : Nat} {x : Int32} (j : Nat) (hdg : decode cc pc = .ok (.iload i, 2)) (hl : lv[j]? = some (i, .int x)) (kk : G (pc + 2) lv (.int x :: st) cs k n) : G pc lv st cs k n := by
  obtain ⟨p, e, s, m, args, below, meth, c, A, Q, rfl, rfl, hx, hb, hml, hown, hts, hret, htab, hZ, hA, hlk, htr⟩ := B
  intro H locs ls hP hD hS hL
  exact lv_iload hx hb hdg (lv_at hL j hl) (kk H locs ls hP hD hS hL)
theorem x_istore_n {l : Launch} {D : va_G} {e0 : Nat} {own : String} {cc : ByteArray} {nL : Nat} {ret : Option FieldType} {hh : List (Nat × Nat × Nat × Nat)} {R : Room} {G : xGt} {X : xXt} (B : xB l D e0 own cc nL ret hh R G X) {pc : Nat} {lv : List (Nat × Value)} {st : List Value} {cs : List va_W} {k n : Nat}  {k9 : Fin 4} {i : Nat} {x : Int32} (lv1 : List (Nat × Value)) (hdg : decode cc pc = .ok (.istore_n k9, 1)) (hi : (k9 : Nat) = i) (hn : i < nL) (hl : (i, Value.int x) :: lv.filter (fun q => !(q.1 == i) && !(q.1 + 1 == i && q.2.category == 2)) = lv1) (kk : G (pc + 1) lv1 st cs k n) : G pc lv (.int x :: st) cs k n := by
  obtain ⟨p, e, s, m, args, below, meth, c, A, Q, rfl, rfl, hx, hb, hml, hown, hts, hret, htab, hZ, hA, hlk, htr⟩ := B
  intro H locs ls hP hD hS hL
  exact lv_istore_n hx hb hdg hi hL hn hl (fun ls hL => kk H locs ls hP hD hS hL)
theorem x_istore {l : Launch} {D : va_G} {e0 : Nat} {own : String} {cc : ByteArray} {nL : Nat} {ret : Option FieldType} {hh : List (Nat × Nat × Nat × Nat)} {R : Room} {G : xGt} {X : xXt} (B : xB l D e0 own cc nL ret hh R G X) {pc : Nat} {lv : List (Nat × Value)} {st : List Value} {cs : List va_W} {k n : Nat}  {i : Nat} {x : Int32} (lv1 : List (Nat × Value)) (hdg : decode cc pc = .ok (.istore i, 2)) (hn : i < nL) (hl : (i, Value.int x) :: lv.filter (fun q => !(q.1 == i) && !(q.1 + 1 == i && q.2.category == 2)) = lv1) (kk : G (pc + 2) lv1 st cs k n) : G pc lv (.int x :: st) cs k n := by
  obtain ⟨p, e, s, m, args, below, meth, c, A, Q, rfl, rfl, hx, hb, hml, hown, hts, hret, htab, hZ, hA, hlk, htr⟩ := B
  intro H locs ls hP hD hS hL
  exact lv_istore hx hb hdg hL hn hl (fun ls hL => kk H locs ls hP hD hS hL)
theorem x_aload_n {l : Launch} {D : va_G} {e0 : Nat} {own : String} {cc : ByteArray} {nL : Nat} {ret : Option FieldType} {hh : List (Nat × Nat × Nat × Nat)} {R : Room} {G : xGt} {X : xXt} (B : xB l D e0 own cc nL ret hh R G X) {pc : Nat} {lv : List (Nat × Value)} {st : List Value} {cs : List va_W} {k n : Nat}  {k9 : Fin 4} {i : Nat} {x : Nat} (j : Nat) (hdg : decode cc pc = .ok (.aload_n k9, 1)) (hi : (k9 : Nat) = i) (hl : lv[j]? = some (i, .ref x)) (kk : G (pc + 1) lv (.ref x :: st) cs k n) : G pc lv st cs k n := by
  obtain ⟨p, e, s, m, args, below, meth, c, A, Q, rfl, rfl, hx, hb, hml, hown, hts, hret, htab, hZ, hA, hlk, htr⟩ := B
  intro H locs ls hP hD hS hL
  exact lv_aload_n hx hb hdg hi (lv_at hL j hl) (kk H locs ls hP hD hS hL)
theorem x_aload {l : Launch} {D : va_G} {e0 : Nat} {own : String} {cc : ByteArray} {nL : Nat} {ret : Option FieldType} {hh : List (Nat × Nat × Nat × Nat)} {R : Room} {G : xGt} {X : xXt} (B : xB l D e0 own cc nL ret hh R G X) {pc : Nat} {lv : List (Nat × Value)} {st : List Value} {cs : List va_W} {k n : Nat}  {i : Nat} {x : Nat} (j : Nat) (hdg : decode cc pc = .ok (.aload i, 2)) (hl : lv[j]? = some (i, .ref x)) (kk : G (pc + 2) lv (.ref x :: st) cs k n) : G pc lv st cs k n := by
  obtain ⟨p, e, s, m, args, below, meth, c, A, Q, rfl, rfl, hx, hb, hml, hown, hts, hret, htab, hZ, hA, hlk, htr⟩ := B
  intro H locs ls hP hD hS hL
  exact lv_aload hx hb hdg (lv_at hL j hl) (kk H locs ls hP hD hS hL)
theorem x_astore_n {l : Launch} {D : va_G} {e0 : Nat} {own : String} {cc : ByteArray} {nL : Nat} {ret : Option FieldType} {hh : List (Nat × Nat × Nat × Nat)} {R : Room} {G : xGt} {X : xXt} (B : xB l D e0 own cc nL ret hh R G X) {pc : Nat} {lv : List (Nat × Value)} {st : List Value} {cs : List va_W} {k n : Nat}  {k9 : Fin 4} {i : Nat} {x : Nat} (lv1 : List (Nat × Value)) (hdg : decode cc pc = .ok (.astore_n k9, 1)) (hi : (k9 : Nat) = i) (hn : i < nL) (hl : (i, Value.ref x) :: lv.filter (fun q => !(q.1 == i) && !(q.1 + 1 == i && q.2.category == 2)) = lv1) (kk : G (pc + 1) lv1 st cs k n) : G pc lv (.ref x :: st) cs k n := by
  obtain ⟨p, e, s, m, args, below, meth, c, A, Q, rfl, rfl, hx, hb, hml, hown, hts, hret, htab, hZ, hA, hlk, htr⟩ := B
  intro H locs ls hP hD hS hL
  exact lv_astore_n hx hb hdg hi hL hn hl (fun ls hL => kk H locs ls hP hD hS hL)
theorem x_astore {l : Launch} {D : va_G} {e0 : Nat} {own : String} {cc : ByteArray} {nL : Nat} {ret : Option FieldType} {hh : List (Nat × Nat × Nat × Nat)} {R : Room} {G : xGt} {X : xXt} (B : xB l D e0 own cc nL ret hh R G X) {pc : Nat} {lv : List (Nat × Value)} {st : List Value} {cs : List va_W} {k n : Nat}  {i : Nat} {x : Nat} (lv1 : List (Nat × Value)) (hdg : decode cc pc = .ok (.astore i, 2)) (hn : i < nL) (hl : (i, Value.ref x) :: lv.filter (fun q => !(q.1 == i) && !(q.1 + 1 == i && q.2.category == 2)) = lv1) (kk : G (pc + 2) lv1 st cs k n) : G pc lv (.ref x :: st) cs k n := by
  obtain ⟨p, e, s, m, args, below, meth, c, A, Q, rfl, rfl, hx, hb, hml, hown, hts, hret, htab, hZ, hA, hlk, htr⟩ := B
  intro H locs ls hP hD hS hL
  exact lv_astore hx hb hdg hL hn hl (fun ls hL => kk H locs ls hP hD hS hL)
theorem x_aload_nN {l : Launch} {D : va_G} {e0 : Nat} {own : String} {cc : ByteArray} {nL : Nat} {ret : Option FieldType} {hh : List (Nat × Nat × Nat × Nat)} {R : Room} {G : xGt} {X : xXt} (B : xB l D e0 own cc nL ret hh R G X) {pc : Nat} {lv : List (Nat × Value)} {st : List Value} {cs : List va_W} {k n : Nat}  {k9 : Fin 4} {i : Nat} (j : Nat) (hdg : decode cc pc = .ok (.aload_n k9, 1)) (hi : (k9 : Nat) = i) (hl : lv[j]? = some (i, .null)) (kk : G (pc + 1) lv (.null :: st) cs k n) : G pc lv st cs k n := by
  obtain ⟨p, e, s, m, args, below, meth, c, A, Q, rfl, rfl, hx, hb, hml, hown, hts, hret, htab, hZ, hA, hlk, htr⟩ := B
  intro H locs ls hP hD hS hL
  exact lv_aload_nN hx hb hdg hi (lv_at hL j hl) (kk H locs ls hP hD hS hL)
theorem x_iinc {l : Launch} {D : va_G} {e0 : Nat} {own : String} {cc : ByteArray} {nL : Nat} {ret : Option FieldType} {hh : List (Nat × Nat × Nat × Nat)} {R : Room} {G : xGt} {X : xXt} (B : xB l D e0 own cc nL ret hh R G X) {pc : Nat} {lv : List (Nat × Value)} {st : List Value} {cs : List va_W} {k n : Nat}  {i : Nat} {d : Int} {x : Int32} (j : Nat) (v : Int32) (lv1 : List (Nat × Value)) (hdg : decode cc pc = .ok (.iinc i d, 3)) (hl : lv[j]? = some (i, .int x)) (hv : x + Int32.ofInt d = v) (hn : i < nL) (hl1 : (i, Value.int v) :: lv.filter (fun q => !(q.1 == i) && !(q.1 + 1 == i && q.2.category == 2)) = lv1) (kk : G (pc + 3) lv1 st cs k n) : G pc lv st cs k n := by
  obtain ⟨p, e, s, m, args, below, meth, c, A, Q, rfl, rfl, hx, hb, hml, hown, hts, hret, htab, hZ, hA, hlk, htr⟩ := B
  intro H locs ls hP hD hS hL
  exact lv_iinc hx hb hdg hL hl hv hn hl1 (fun ls hL => kk H locs ls hP hD hS hL)
theorem x_iadd {l : Launch} {D : va_G} {e0 : Nat} {own : String} {cc : ByteArray} {nL : Nat} {ret : Option FieldType} {hh : List (Nat × Nat × Nat × Nat)} {R : Room} {G : xGt} {X : xXt} (B : xB l D e0 own cc nL ret hh R G X) {pc : Nat} {lv : List (Nat × Value)} {st : List Value} {cs : List va_W} {k n : Nat}  {x y : Int32} (hdg : decode cc pc = .ok (.iadd, 1)) (kk : G (pc + 1) lv (.int (x + y) :: st) cs k n) : G pc lv (.int y :: .int x :: st) cs k n := by
  obtain ⟨p, e, s, m, args, below, meth, c, A, Q, rfl, rfl, hx, hb, hml, hown, hts, hret, htab, hZ, hA, hlk, htr⟩ := B
  intro H locs ls hP hD hS hL
  exact lv_iadd hx hb hdg (kk H locs ls hP hD hS hL)
theorem x_isub {l : Launch} {D : va_G} {e0 : Nat} {own : String} {cc : ByteArray} {nL : Nat} {ret : Option FieldType} {hh : List (Nat × Nat × Nat × Nat)} {R : Room} {G : xGt} {X : xXt} (B : xB l D e0 own cc nL ret hh R G X) {pc : Nat} {lv : List (Nat × Value)} {st : List Value} {cs : List va_W} {k n : Nat}  {x y : Int32} (hdg : decode cc pc = .ok (.isub, 1)) (kk : G (pc + 1) lv (.int (x - y) :: st) cs k n) : G pc lv (.int y :: .int x :: st) cs k n := by
  obtain ⟨p, e, s, m, args, below, meth, c, A, Q, rfl, rfl, hx, hb, hml, hown, hts, hret, htab, hZ, hA, hlk, htr⟩ := B
  intro H locs ls hP hD hS hL
  exact lv_isub hx hb hdg (kk H locs ls hP hD hS hL)
theorem x_imul {l : Launch} {D : va_G} {e0 : Nat} {own : String} {cc : ByteArray} {nL : Nat} {ret : Option FieldType} {hh : List (Nat × Nat × Nat × Nat)} {R : Room} {G : xGt} {X : xXt} (B : xB l D e0 own cc nL ret hh R G X) {pc : Nat} {lv : List (Nat × Value)} {st : List Value} {cs : List va_W} {k n : Nat}  {x y : Int32} (hdg : decode cc pc = .ok (.imul, 1)) (kk : G (pc + 1) lv (.int (x * y) :: st) cs k n) : G pc lv (.int y :: .int x :: st) cs k n := by
  obtain ⟨p, e, s, m, args, below, meth, c, A, Q, rfl, rfl, hx, hb, hml, hown, hts, hret, htab, hZ, hA, hlk, htr⟩ := B
  intro H locs ls hP hD hS hL
  exact lv_imul hx hb hdg (kk H locs ls hP hD hS hL)
theorem x_iand {l : Launch} {D : va_G} {e0 : Nat} {own : String} {cc : ByteArray} {nL : Nat} {ret : Option FieldType} {hh : List (Nat × Nat × Nat × Nat)} {R : Room} {G : xGt} {X : xXt} (B : xB l D e0 own cc nL ret hh R G X) {pc : Nat} {lv : List (Nat × Value)} {st : List Value} {cs : List va_W} {k n : Nat}  {x y : Int32} (hdg : decode cc pc = .ok (.iand, 1)) (kk : G (pc + 1) lv (.int (x &&& y) :: st) cs k n) : G pc lv (.int y :: .int x :: st) cs k n := by
  obtain ⟨p, e, s, m, args, below, meth, c, A, Q, rfl, rfl, hx, hb, hml, hown, hts, hret, htab, hZ, hA, hlk, htr⟩ := B
  intro H locs ls hP hD hS hL
  exact lv_iand hx hb hdg (kk H locs ls hP hD hS hL)
theorem x_ixor {l : Launch} {D : va_G} {e0 : Nat} {own : String} {cc : ByteArray} {nL : Nat} {ret : Option FieldType} {hh : List (Nat × Nat × Nat × Nat)} {R : Room} {G : xGt} {X : xXt} (B : xB l D e0 own cc nL ret hh R G X) {pc : Nat} {lv : List (Nat × Value)} {st : List Value} {cs : List va_W} {k n : Nat}  {x y : Int32} (hdg : decode cc pc = .ok (.ixor, 1)) (kk : G (pc + 1) lv (.int (x ^^^ y) :: st) cs k n) : G pc lv (.int y :: .int x :: st) cs k n := by
  obtain ⟨p, e, s, m, args, below, meth, c, A, Q, rfl, rfl, hx, hb, hml, hown, hts, hret, htab, hZ, hA, hlk, htr⟩ := B
  intro H locs ls hP hD hS hL
  exact lv_ixor hx hb hdg (kk H locs ls hP hD hS hL)
theorem x_ishr {l : Launch} {D : va_G} {e0 : Nat} {own : String} {cc : ByteArray} {nL : Nat} {ret : Option FieldType} {hh : List (Nat × Nat × Nat × Nat)} {R : Room} {G : xGt} {X : xXt} (B : xB l D e0 own cc nL ret hh R G X) {pc : Nat} {lv : List (Nat × Value)} {st : List Value} {cs : List va_W} {k n : Nat}  {x y : Int32} (hdg : decode cc pc = .ok (.ishr, 1)) (kk : G (pc + 1) lv (.int (x >>> (y &&& 31)) :: st) cs k n) : G pc lv (.int y :: .int x :: st) cs k n := by
  obtain ⟨p, e, s, m, args, below, meth, c, A, Q, rfl, rfl, hx, hb, hml, hown, hts, hret, htab, hZ, hA, hlk, htr⟩ := B
  intro H locs ls hP hD hS hL
  exact lv_ishr hx hb hdg (kk H locs ls hP hD hS hL)
theorem x_irem {l : Launch} {D : va_G} {e0 : Nat} {own : String} {cc : ByteArray} {nL : Nat} {ret : Option FieldType} {hh : List (Nat × Nat × Nat × Nat)} {R : Room} {G : xGt} {X : xXt} (B : xB l D e0 own cc nL ret hh R G X) {pc : Nat} {lv : List (Nat × Value)} {st : List Value} {cs : List va_W} {k n : Nat}  {x y : Int32} (hdg : decode cc pc = .ok (.irem, 1)) (hne : ¬ y = 0) (kk : G (pc + 1) lv (.int (x - x / y * y) :: st) cs k n) : G pc lv (.int y :: .int x :: st) cs k n := by
  obtain ⟨p, e, s, m, args, below, meth, c, A, Q, rfl, rfl, hx, hb, hml, hown, hts, hret, htab, hZ, hA, hlk, htr⟩ := B
  intro H locs ls hP hD hS hL
  exact lv_irem hx hb hdg hne (kk H locs ls hP hD hS hL)
theorem x_idiv {l : Launch} {D : va_G} {e0 : Nat} {own : String} {cc : ByteArray} {nL : Nat} {ret : Option FieldType} {hh : List (Nat × Nat × Nat × Nat)} {R : Room} {G : xGt} {X : xXt} (B : xB l D e0 own cc nL ret hh R G X) {pc : Nat} {lv : List (Nat × Value)} {st : List Value} {cs : List va_W} {k n : Nat}  {x y : Int32} (hdg : decode cc pc = .ok (.idiv, 1)) (hne : ¬ y = 0) (kk : G (pc + 1) lv (.int (x / y) :: st) cs k n) : G pc lv (.int y :: .int x :: st) cs k n := by
  obtain ⟨p, e, s, m, args, below, meth, c, A, Q, rfl, rfl, hx, hb, hml, hown, hts, hret, htab, hZ, hA, hlk, htr⟩ := B
  intro H locs ls hP hD hS hL
  exact lv_idiv hx hb hdg hne (kk H locs ls hP hD hS hL)
theorem x_dup {l : Launch} {D : va_G} {e0 : Nat} {own : String} {cc : ByteArray} {nL : Nat} {ret : Option FieldType} {hh : List (Nat × Nat × Nat × Nat)} {R : Room} {G : xGt} {X : xXt} (B : xB l D e0 own cc nL ret hh R G X) {pc : Nat} {lv : List (Nat × Value)} {st : List Value} {cs : List va_W} {k n : Nat}  {va : Value} (hdg : decode cc pc = .ok (.dup, 1)) (hva : va.category = 1) (kk : G (pc + 1) lv (va :: va :: st) cs k n) : G pc lv (va :: st) cs k n := by
  obtain ⟨p, e, s, m, args, below, meth, c, A, Q, rfl, rfl, hx, hb, hml, hown, hts, hret, htab, hZ, hA, hlk, htr⟩ := B
  intro H locs ls hP hD hS hL
  exact lv_dup hx hb hdg hva (kk H locs ls hP hD hS hL)
theorem x_pop {l : Launch} {D : va_G} {e0 : Nat} {own : String} {cc : ByteArray} {nL : Nat} {ret : Option FieldType} {hh : List (Nat × Nat × Nat × Nat)} {R : Room} {G : xGt} {X : xXt} (B : xB l D e0 own cc nL ret hh R G X) {pc : Nat} {lv : List (Nat × Value)} {st : List Value} {cs : List va_W} {k n : Nat}  {va : Value} (hdg : decode cc pc = .ok (.pop, 1)) (hva : va.category = 1) (kk : G (pc + 1) lv st cs k n) : G pc lv (va :: st) cs k n := by
  obtain ⟨p, e, s, m, args, below, meth, c, A, Q, rfl, rfl, hx, hb, hml, hown, hts, hret, htab, hZ, hA, hlk, htr⟩ := B
  intro H locs ls hP hD hS hL
  exact lv_pop hx hb hdg hva (kk H locs ls hP hD hS hL)
theorem x_dup_x1 {l : Launch} {D : va_G} {e0 : Nat} {own : String} {cc : ByteArray} {nL : Nat} {ret : Option FieldType} {hh : List (Nat × Nat × Nat × Nat)} {R : Room} {G : xGt} {X : xXt} (B : xB l D e0 own cc nL ret hh R G X) {pc : Nat} {lv : List (Nat × Value)} {st : List Value} {cs : List va_W} {k n : Nat}  {va vb : Value} (hdg : decode cc pc = .ok (.dup_x1, 1)) (hva : va.category = 1) (hvb : vb.category = 1) (kk : G (pc + 1) lv (va :: vb :: va :: st) cs k n) : G pc lv (va :: vb :: st) cs k n := by
  obtain ⟨p, e, s, m, args, below, meth, c, A, Q, rfl, rfl, hx, hb, hml, hown, hts, hret, htab, hZ, hA, hlk, htr⟩ := B
  intro H locs ls hP hD hS hL
  exact lv_dup_x1 hx hb hdg hva hvb (kk H locs ls hP hD hS hL)
theorem x_dup2 {l : Launch} {D : va_G} {e0 : Nat} {own : String} {cc : ByteArray} {nL : Nat} {ret : Option FieldType} {hh : List (Nat × Nat × Nat × Nat)} {R : Room} {G : xGt} {X : xXt} (B : xB l D e0 own cc nL ret hh R G X) {pc : Nat} {lv : List (Nat × Value)} {st : List Value} {cs : List va_W} {k n : Nat}  {va vb : Value} (hdg : decode cc pc = .ok (.dup2, 1)) (hva : va.category = 1) (hvb : vb.category = 1) (kk : G (pc + 1) lv (va :: vb :: va :: vb :: st) cs k n) : G pc lv (va :: vb :: st) cs k n := by
  obtain ⟨p, e, s, m, args, below, meth, c, A, Q, rfl, rfl, hx, hb, hml, hown, hts, hret, htab, hZ, hA, hlk, htr⟩ := B
  intro H locs ls hP hD hS hL
  exact lv_dup2_11 hx hb hdg hva hvb (kk H locs ls hP hD hS hL)
theorem x_if_eq {l : Launch} {D : va_G} {e0 : Nat} {own : String} {cc : ByteArray} {nL : Nat} {ret : Option FieldType} {hh : List (Nat × Nat × Nat × Nat)} {R : Room} {G : xGt} {X : xXt} (B : xB l D e0 own cc nL ret hh R G X) {pc : Nat} {lv : List (Nat × Value)} {st : List Value} {cs : List va_W} {k n : Nat}  {x : Int32} {off : Int} (tgt : Nat) (hdg : decode cc pc = .ok (.ifCond .eq off, 3)) (ht : (pc : Int) + off = (tgt : Int)) (kt : x = 0 → G tgt lv st cs k n) (kf : ¬ x = 0 → G (pc + 3) lv st cs k n) : G pc lv (.int x :: st) cs k n := by
  obtain ⟨p, e, s, m, args, below, meth, c, A, Q, rfl, rfl, hx, hb, hml, hown, hts, hret, htab, hZ, hA, hlk, htr⟩ := B
  intro H locs ls hP hD hS hL
  exact lv_if_eq hx hb hdg ht (fun h => kt h H locs ls hP hD hS hL) (fun h => kf h H locs ls hP hD hS hL)
theorem x_icmp_eq {l : Launch} {D : va_G} {e0 : Nat} {own : String} {cc : ByteArray} {nL : Nat} {ret : Option FieldType} {hh : List (Nat × Nat × Nat × Nat)} {R : Room} {G : xGt} {X : xXt} (B : xB l D e0 own cc nL ret hh R G X) {pc : Nat} {lv : List (Nat × Value)} {st : List Value} {cs : List va_W} {k n : Nat}  {x y : Int32} {off : Int} (tgt : Nat) (hdg : decode cc pc = .ok (.if_icmp .eq off, 3)) (ht : (pc : Int) + off = (tgt : Int)) (kt : x = y → G tgt lv st cs k n) (kf : ¬ x = y → G (pc + 3) lv st cs k n) : G pc lv (.int y :: .int x :: st) cs k n := by
  obtain ⟨p, e, s, m, args, below, meth, c, A, Q, rfl, rfl, hx, hb, hml, hown, hts, hret, htab, hZ, hA, hlk, htr⟩ := B
  intro H locs ls hP hD hS hL
  exact lv_icmp_eq hx hb hdg ht (fun h => kt h H locs ls hP hD hS hL) (fun h => kf h H locs ls hP hD hS hL)
theorem x_if_ne {l : Launch} {D : va_G} {e0 : Nat} {own : String} {cc : ByteArray} {nL : Nat} {ret : Option FieldType} {hh : List (Nat × Nat × Nat × Nat)} {R : Room} {G : xGt} {X : xXt} (B : xB l D e0 own cc nL ret hh R G X) {pc : Nat} {lv : List (Nat × Value)} {st : List Value} {cs : List va_W} {k n : Nat}  {x : Int32} {off : Int} (tgt : Nat) (hdg : decode cc pc = .ok (.ifCond .ne off, 3)) (ht : (pc : Int) + off = (tgt : Int)) (kt : ¬ x = 0 → G tgt lv st cs k n) (kf : x = 0 → G (pc + 3) lv st cs k n) : G pc lv (.int x :: st) cs k n := by
  obtain ⟨p, e, s, m, args, below, meth, c, A, Q, rfl, rfl, hx, hb, hml, hown, hts, hret, htab, hZ, hA, hlk, htr⟩ := B
  intro H locs ls hP hD hS hL
  exact lv_if_ne hx hb hdg ht (fun h => kt h H locs ls hP hD hS hL) (fun h => kf h H locs ls hP hD hS hL)
theorem x_icmp_ne {l : Launch} {D : va_G} {e0 : Nat} {own : String} {cc : ByteArray} {nL : Nat} {ret : Option FieldType} {hh : List (Nat × Nat × Nat × Nat)} {R : Room} {G : xGt} {X : xXt} (B : xB l D e0 own cc nL ret hh R G X) {pc : Nat} {lv : List (Nat × Value)} {st : List Value} {cs : List va_W} {k n : Nat}  {x y : Int32} {off : Int} (tgt : Nat) (hdg : decode cc pc = .ok (.if_icmp .ne off, 3)) (ht : (pc : Int) + off = (tgt : Int)) (kt : ¬ x = y → G tgt lv st cs k n) (kf : x = y → G (pc + 3) lv st cs k n) : G pc lv (.int y :: .int x :: st) cs k n := by
  obtain ⟨p, e, s, m, args, below, meth, c, A, Q, rfl, rfl, hx, hb, hml, hown, hts, hret, htab, hZ, hA, hlk, htr⟩ := B
  intro H locs ls hP hD hS hL
  exact lv_icmp_ne hx hb hdg ht (fun h => kt h H locs ls hP hD hS hL) (fun h => kf h H locs ls hP hD hS hL)
theorem x_if_lt {l : Launch} {D : va_G} {e0 : Nat} {own : String} {cc : ByteArray} {nL : Nat} {ret : Option FieldType} {hh : List (Nat × Nat × Nat × Nat)} {R : Room} {G : xGt} {X : xXt} (B : xB l D e0 own cc nL ret hh R G X) {pc : Nat} {lv : List (Nat × Value)} {st : List Value} {cs : List va_W} {k n : Nat}  {x : Int32} {off : Int} (tgt : Nat) (hdg : decode cc pc = .ok (.ifCond .lt off, 3)) (ht : (pc : Int) + off = (tgt : Int)) (kt : x < 0 → G tgt lv st cs k n) (kf : ¬ x < 0 → G (pc + 3) lv st cs k n) : G pc lv (.int x :: st) cs k n := by
  obtain ⟨p, e, s, m, args, below, meth, c, A, Q, rfl, rfl, hx, hb, hml, hown, hts, hret, htab, hZ, hA, hlk, htr⟩ := B
  intro H locs ls hP hD hS hL
  exact lv_if_lt hx hb hdg ht (fun h => kt h H locs ls hP hD hS hL) (fun h => kf h H locs ls hP hD hS hL)
theorem x_icmp_lt {l : Launch} {D : va_G} {e0 : Nat} {own : String} {cc : ByteArray} {nL : Nat} {ret : Option FieldType} {hh : List (Nat × Nat × Nat × Nat)} {R : Room} {G : xGt} {X : xXt} (B : xB l D e0 own cc nL ret hh R G X) {pc : Nat} {lv : List (Nat × Value)} {st : List Value} {cs : List va_W} {k n : Nat}  {x y : Int32} {off : Int} (tgt : Nat) (hdg : decode cc pc = .ok (.if_icmp .lt off, 3)) (ht : (pc : Int) + off = (tgt : Int)) (kt : x < y → G tgt lv st cs k n) (kf : ¬ x < y → G (pc + 3) lv st cs k n) : G pc lv (.int y :: .int x :: st) cs k n := by
  obtain ⟨p, e, s, m, args, below, meth, c, A, Q, rfl, rfl, hx, hb, hml, hown, hts, hret, htab, hZ, hA, hlk, htr⟩ := B
  intro H locs ls hP hD hS hL
  exact lv_icmp_lt hx hb hdg ht (fun h => kt h H locs ls hP hD hS hL) (fun h => kf h H locs ls hP hD hS hL)
theorem x_if_ge {l : Launch} {D : va_G} {e0 : Nat} {own : String} {cc : ByteArray} {nL : Nat} {ret : Option FieldType} {hh : List (Nat × Nat × Nat × Nat)} {R : Room} {G : xGt} {X : xXt} (B : xB l D e0 own cc nL ret hh R G X) {pc : Nat} {lv : List (Nat × Value)} {st : List Value} {cs : List va_W} {k n : Nat}  {x : Int32} {off : Int} (tgt : Nat) (hdg : decode cc pc = .ok (.ifCond .ge off, 3)) (ht : (pc : Int) + off = (tgt : Int)) (kt : 0 ≤ x → G tgt lv st cs k n) (kf : ¬ 0 ≤ x → G (pc + 3) lv st cs k n) : G pc lv (.int x :: st) cs k n := by
  obtain ⟨p, e, s, m, args, below, meth, c, A, Q, rfl, rfl, hx, hb, hml, hown, hts, hret, htab, hZ, hA, hlk, htr⟩ := B
  intro H locs ls hP hD hS hL
  exact lv_if_ge hx hb hdg ht (fun h => kt h H locs ls hP hD hS hL) (fun h => kf h H locs ls hP hD hS hL)
theorem x_icmp_ge {l : Launch} {D : va_G} {e0 : Nat} {own : String} {cc : ByteArray} {nL : Nat} {ret : Option FieldType} {hh : List (Nat × Nat × Nat × Nat)} {R : Room} {G : xGt} {X : xXt} (B : xB l D e0 own cc nL ret hh R G X) {pc : Nat} {lv : List (Nat × Value)} {st : List Value} {cs : List va_W} {k n : Nat}  {x y : Int32} {off : Int} (tgt : Nat) (hdg : decode cc pc = .ok (.if_icmp .ge off, 3)) (ht : (pc : Int) + off = (tgt : Int)) (kt : y ≤ x → G tgt lv st cs k n) (kf : ¬ y ≤ x → G (pc + 3) lv st cs k n) : G pc lv (.int y :: .int x :: st) cs k n := by
  obtain ⟨p, e, s, m, args, below, meth, c, A, Q, rfl, rfl, hx, hb, hml, hown, hts, hret, htab, hZ, hA, hlk, htr⟩ := B
  intro H locs ls hP hD hS hL
  exact lv_icmp_ge hx hb hdg ht (fun h => kt h H locs ls hP hD hS hL) (fun h => kf h H locs ls hP hD hS hL)
theorem x_if_gt {l : Launch} {D : va_G} {e0 : Nat} {own : String} {cc : ByteArray} {nL : Nat} {ret : Option FieldType} {hh : List (Nat × Nat × Nat × Nat)} {R : Room} {G : xGt} {X : xXt} (B : xB l D e0 own cc nL ret hh R G X) {pc : Nat} {lv : List (Nat × Value)} {st : List Value} {cs : List va_W} {k n : Nat}  {x : Int32} {off : Int} (tgt : Nat) (hdg : decode cc pc = .ok (.ifCond .gt off, 3)) (ht : (pc : Int) + off = (tgt : Int)) (kt : 0 < x → G tgt lv st cs k n) (kf : ¬ 0 < x → G (pc + 3) lv st cs k n) : G pc lv (.int x :: st) cs k n := by
  obtain ⟨p, e, s, m, args, below, meth, c, A, Q, rfl, rfl, hx, hb, hml, hown, hts, hret, htab, hZ, hA, hlk, htr⟩ := B
  intro H locs ls hP hD hS hL
  exact lv_if_gt hx hb hdg ht (fun h => kt h H locs ls hP hD hS hL) (fun h => kf h H locs ls hP hD hS hL)
theorem x_icmp_gt {l : Launch} {D : va_G} {e0 : Nat} {own : String} {cc : ByteArray} {nL : Nat} {ret : Option FieldType} {hh : List (Nat × Nat × Nat × Nat)} {R : Room} {G : xGt} {X : xXt} (B : xB l D e0 own cc nL ret hh R G X) {pc : Nat} {lv : List (Nat × Value)} {st : List Value} {cs : List va_W} {k n : Nat}  {x y : Int32} {off : Int} (tgt : Nat) (hdg : decode cc pc = .ok (.if_icmp .gt off, 3)) (ht : (pc : Int) + off = (tgt : Int)) (kt : y < x → G tgt lv st cs k n) (kf : ¬ y < x → G (pc + 3) lv st cs k n) : G pc lv (.int y :: .int x :: st) cs k n := by
  obtain ⟨p, e, s, m, args, below, meth, c, A, Q, rfl, rfl, hx, hb, hml, hown, hts, hret, htab, hZ, hA, hlk, htr⟩ := B
  intro H locs ls hP hD hS hL
  exact lv_icmp_gt hx hb hdg ht (fun h => kt h H locs ls hP hD hS hL) (fun h => kf h H locs ls hP hD hS hL)
theorem x_if_le {l : Launch} {D : va_G} {e0 : Nat} {own : String} {cc : ByteArray} {nL : Nat} {ret : Option FieldType} {hh : List (Nat × Nat × Nat × Nat)} {R : Room} {G : xGt} {X : xXt} (B : xB l D e0 own cc nL ret hh R G X) {pc : Nat} {lv : List (Nat × Value)} {st : List Value} {cs : List va_W} {k n : Nat}  {x : Int32} {off : Int} (tgt : Nat) (hdg : decode cc pc = .ok (.ifCond .le off, 3)) (ht : (pc : Int) + off = (tgt : Int)) (kt : x ≤ 0 → G tgt lv st cs k n) (kf : ¬ x ≤ 0 → G (pc + 3) lv st cs k n) : G pc lv (.int x :: st) cs k n := by
  obtain ⟨p, e, s, m, args, below, meth, c, A, Q, rfl, rfl, hx, hb, hml, hown, hts, hret, htab, hZ, hA, hlk, htr⟩ := B
  intro H locs ls hP hD hS hL
  exact lv_if_le hx hb hdg ht (fun h => kt h H locs ls hP hD hS hL) (fun h => kf h H locs ls hP hD hS hL)
theorem x_icmp_le {l : Launch} {D : va_G} {e0 : Nat} {own : String} {cc : ByteArray} {nL : Nat} {ret : Option FieldType} {hh : List (Nat × Nat × Nat × Nat)} {R : Room} {G : xGt} {X : xXt} (B : xB l D e0 own cc nL ret hh R G X) {pc : Nat} {lv : List (Nat × Value)} {st : List Value} {cs : List va_W} {k n : Nat}  {x y : Int32} {off : Int} (tgt : Nat) (hdg : decode cc pc = .ok (.if_icmp .le off, 3)) (ht : (pc : Int) + off = (tgt : Int)) (kt : x ≤ y → G tgt lv st cs k n) (kf : ¬ x ≤ y → G (pc + 3) lv st cs k n) : G pc lv (.int y :: .int x :: st) cs k n := by
  obtain ⟨p, e, s, m, args, below, meth, c, A, Q, rfl, rfl, hx, hb, hml, hown, hts, hret, htab, hZ, hA, hlk, htr⟩ := B
  intro H locs ls hP hD hS hL
  exact lv_icmp_le hx hb hdg ht (fun h => kt h H locs ls hP hD hS hL) (fun h => kf h H locs ls hP hD hS hL)
theorem x_goto {l : Launch} {D : va_G} {e0 : Nat} {own : String} {cc : ByteArray} {nL : Nat} {ret : Option FieldType} {hh : List (Nat × Nat × Nat × Nat)} {R : Room} {G : xGt} {X : xXt} (B : xB l D e0 own cc nL ret hh R G X) {pc : Nat} {lv : List (Nat × Value)} {st : List Value} {cs : List va_W} {k n : Nat}  {off : Int} (tgt : Nat) (hdg : decode cc pc = .ok (.goto off, 3)) (ht : (pc : Int) + off = (tgt : Int)) (kk : G tgt lv st cs k n) : G pc lv st cs k n := by
  obtain ⟨p, e, s, m, args, below, meth, c, A, Q, rfl, rfl, hx, hb, hml, hown, hts, hret, htab, hZ, hA, hlk, htr⟩ := B
  intro H locs ls hP hD hS hL
  exact lv_goto hx hb hdg ht (kk H locs ls hP hD hS hL)
theorem x_acmp_eq {l : Launch} {D : va_G} {e0 : Nat} {own : String} {cc : ByteArray} {nL : Nat} {ret : Option FieldType} {hh : List (Nat × Nat × Nat × Nat)} {R : Room} {G : xGt} {X : xXt} (B : xB l D e0 own cc nL ret hh R G X) {pc : Nat} {lv : List (Nat × Value)} {st : List Value} {cs : List va_W} {k n : Nat}  {a b : Nat} {off : Int} (tgt : Nat) (hdg : decode cc pc = .ok (.if_acmp .eq off, 3)) (ht : (pc : Int) + off = (tgt : Int)) (kt : some a = some b → G tgt lv st cs k n) (kf : ¬ some a = some b → G (pc + 3) lv st cs k n) : G pc lv (.ref b :: .ref a :: st) cs k n := by
  obtain ⟨p, e, s, m, args, below, meth, c, A, Q, rfl, rfl, hx, hb, hml, hown, hts, hret, htab, hZ, hA, hlk, htr⟩ := B
  intro H locs ls hP hD hS hL
  exact lv_acmp_eq (rx := some a) (ry := some b) hx hb hdg ht (fun h => kt h H locs ls hP hD hS hL) (fun h => kf h H locs ls hP hD hS hL)
theorem x_acmp_ne {l : Launch} {D : va_G} {e0 : Nat} {own : String} {cc : ByteArray} {nL : Nat} {ret : Option FieldType} {hh : List (Nat × Nat × Nat × Nat)} {R : Room} {G : xGt} {X : xXt} (B : xB l D e0 own cc nL ret hh R G X) {pc : Nat} {lv : List (Nat × Value)} {st : List Value} {cs : List va_W} {k n : Nat}  {a b : Nat} {off : Int} (tgt : Nat) (hdg : decode cc pc = .ok (.if_acmp .ne off, 3)) (ht : (pc : Int) + off = (tgt : Int)) (kt : ¬ some a = some b → G tgt lv st cs k n) (kf : some a = some b → G (pc + 3) lv st cs k n) : G pc lv (.ref b :: .ref a :: st) cs k n := by
  obtain ⟨p, e, s, m, args, below, meth, c, A, Q, rfl, rfl, hx, hb, hml, hown, hts, hret, htab, hZ, hA, hlk, htr⟩ := B
  intro H locs ls hP hD hS hL
  exact lv_acmp_ne (rx := some a) (ry := some b) hx hb hdg ht (fun h => kt h H locs ls hP hD hS hL) (fun h => kf h H locs ls hP hD hS hL)
theorem x_i2l {l : Launch} {D : va_G} {e0 : Nat} {own : String} {cc : ByteArray} {nL : Nat} {ret : Option FieldType} {hh : List (Nat × Nat × Nat × Nat)} {R : Room} {G : xGt} {X : xXt} (B : xB l D e0 own cc nL ret hh R G X) {pc : Nat} {lv : List (Nat × Value)} {st : List Value} {cs : List va_W} {k n : Nat}  {x : Int32} (hdg : decode cc pc = .ok (.i2l, 1)) (kk : G (pc + 1) lv (.long x.toInt64 :: st) cs k n) : G pc lv (.int x :: st) cs k n := by
  obtain ⟨p, e, s, m, args, below, meth, c, A, Q, rfl, rfl, hx, hb, hml, hown, hts, hret, htab, hZ, hA, hlk, htr⟩ := B
  intro H locs ls hP hD hS hL
  exact lv_i2l hx hb hdg rfl (kk H locs ls hP hD hS hL)
theorem x_lcmp {l : Launch} {D : va_G} {e0 : Nat} {own : String} {cc : ByteArray} {nL : Nat} {ret : Option FieldType} {hh : List (Nat × Nat × Nat × Nat)} {R : Room} {G : xGt} {X : xXt} (B : xB l D e0 own cc nL ret hh R G X) {pc : Nat} {lv : List (Nat × Value)} {st : List Value} {cs : List va_W} {k n : Nat}  {x y : Int64} (hdg : decode cc pc = .ok (.lcmp, 1)) (kk : G (pc + 1) lv (.int (lg_cmp x y) :: st) cs k n) : G pc lv (.long y :: .long x :: st) cs k n := by
  obtain ⟨p, e, s, m, args, below, meth, c, A, Q, rfl, rfl, hx, hb, hml, hown, hts, hret, htab, hZ, hA, hlk, htr⟩ := B
  intro H locs ls hP hD hS hL
  exact W.lcmp hx hb hdg (kk H locs ls hP hD hS hL)
/-- a class of the worlds, by the tables -/
def xCl (ci : Nat) (C : String) (T : u_T) (N : Nat) (ty : Nat → FieldType) : Prop := vwCl[ci]? = some (C, T, N) ∧ (∀ w ∈ u_ws C T N, w ∈ xT) ∧ (∀ k, k < N → parseFieldDescriptor (T k).2.2.1 = some (ty k)) ∧ ∀ a, a < N → ∀ b, b < N → a ≠ b → (T a).2.1 ≠ (T b).2.1
theorem x_get {l : Launch} {D : va_G} {e0 : Nat} {own : String} {cc : ByteArray} {nL : Nat} {ret : Option FieldType} {hh : List (Nat × Nat × Nat × Nat)} {R : Room} {G : xGt} {X : xXt} (B : xB l D e0 own cc nL ret hh R G X) {pc : Nat} {lv : List (Nat × Value)} {st : List Value} {cs : List va_W} {k n : Nat} {ci : Nat} {C : String} {T : u_T} {N : Nat} {ty : Nat → FieldType}  {a index : Nat} {ref : String} {fs : List Value} {v : Value} {ch : va_W} (hc : xCl ci C T N ty) (i j f : Nat) (hi : cs[i]? = some ch) (hj : ch[j]? = some (a, .inr (ci, fs))) (hf : f < N) (hw : Cond.fieldLink own index ref (T f).2.1 (T f).2.2.1 ∈ lw_tbl) (hr : (T f).1 = ref) (hv : fs[f]? = some v) (hdg : decode cc pc = .ok (.getfield index, 3)) (kk : G (pc + 3) lv (v :: st) cs k n) : G pc lv (.ref a :: st) cs k n := by
  obtain ⟨p, e, s, m, args, below, meth, c, A, Q, rfl, rfl, hx, hb, hml, hown, hts, hret, htab, hZ, hA, hlk, htr⟩ := B
  intro H locs ls hP hD hS hL
  subst hr
  obtain ⟨q0, hq⟩ := xfl_mem hi hj
  exact va_get hx hb hts hc.2.1 hown hZ.1 hP q0 hq hc.1 f hf (hts _ (xT_mem hw rfl)) (fun _ h => h) hv hdg (kk H locs ls hP hD hS hL)
theorem x_getS {l : Launch} {D : va_G} {e0 : Nat} {own : String} {cc : ByteArray} {nL : Nat} {ret : Option FieldType} {hh : List (Nat × Nat × Nat × Nat)} {R : Room} {G : xGt} {X : xXt} (B : xB l D e0 own cc nL ret hh R G X) {pc : Nat} {lv : List (Nat × Value)} {st : List Value} {cs : List va_W} {k n : Nat} {ci : Nat} {C : String} {T : u_T} {N : Nat} {ty : Nat → FieldType}  {a index : Nat} {ref : String} {fs : List Value} {v : Value} {ch : va_W} (hc : xCl ci C T N ty) (i j f : Nat) (hi : cs[i]? = some ch) (hj : ch[j]? = some (a, .inr (ci, fs))) (hf : f < N) (hw : Cond.fieldLink own index ref (T f).2.1 (T f).2.2.1 ∈ lw_tbl) (hw2 : Cond.sameField ref (T f).1 (T f).2.1 (T f).2.2.1 ∈ lw_tbl) (hv : fs[f]? = some v) (hdg : decode cc pc = .ok (.getfield index, 3)) (kk : G (pc + 3) lv (v :: st) cs k n) : G pc lv (.ref a :: st) cs k n := by
  obtain ⟨p, e, s, m, args, below, meth, c, A, Q, rfl, rfl, hx, hb, hml, hown, hts, hret, htab, hZ, hA, hlk, htr⟩ := B
  intro H locs ls hP hD hS hL
  obtain ⟨q0, hq⟩ := xfl_mem hi hj
  exact va_get hx hb hts hc.2.1 hown hZ.1 hP q0 hq hc.1 f hf (hts _ (xT_mem hw rfl)) (u_same (hts _ (xT_mem hw2 rfl))) hv hdg (kk H locs ls hP hD hS hL)
theorem x_put {l : Launch} {D : va_G} {e0 : Nat} {own : String} {cc : ByteArray} {nL : Nat} {ret : Option FieldType} {hh : List (Nat × Nat × Nat × Nat)} {R : Room} {G : xGt} {X : xXt} (B : xB l D e0 own cc nL ret hh R G X) {pc : Nat} {lv : List (Nat × Value)} {st : List Value} {cs : List va_W} {k n : Nat} {ci : Nat} {C : String} {T : u_T} {N : Nat} {ty : Nat → FieldType}  {a index : Nat} {ref : String} {fs : List Value} {v : Value} {t0 : FieldType} {ch ch1 : va_W} (hc : xCl ci C T N ty) (i j f : Nat) (cs1 : List va_W) (hi : cs[i]? = some ch) (hj : ch[j]? = some (a, .inr (ci, fs))) (hf : f < N) (hw : Cond.fieldLink own index ref (T f).2.1 (T f).2.2.1 ∈ lw_tbl) (hr : (T f).1 = ref) (hfin : (T f).2.2.2 = false) (ht : ty f = t0) (hna : narrow t0 v = v) (hfi : fits t0 v = true) (hl : f < fs.length) (hs : ch.set j (a, .inr (ci, fs.set f v)) = ch1) (hcs : cs.set i ch1 = cs1) (hdg : decode cc pc = .ok (.putfield index, 3)) (kk : G (pc + 3) lv st cs1 k n) : G pc lv (v :: .ref a :: st) cs k n := by
  obtain ⟨p, e, s, m, args, below, meth, c, A, Q, rfl, rfl, hx, hb, hml, hown, hts, hret, htab, hZ, hA, hlk, htr⟩ := B
  intro H locs ls hP hD hS hL
  subst hr
  subst ht
  subst hs
  subst hcs
  obtain ⟨q0, hq, hset⟩ := xfl_at hi hj
  refine va_put hx hb hts hc.2.1 ty hc.2.2.1 hc.2.2.2 hown hZ.1 hP hD hS q0 hq hc.1 f hf (hts _ (xT_mem hw rfl)) (fun _ h => h) hfin (hc.2.2.1 f hf) hna hfi hl hdg (fun H1 locs1 hP1 hD1 hS1 => ?_)
  rw [hset] at hP1 hD1
  exact kk H1 locs1 ls hP1 hD1 hS1 hL
theorem x_putS {l : Launch} {D : va_G} {e0 : Nat} {own : String} {cc : ByteArray} {nL : Nat} {ret : Option FieldType} {hh : List (Nat × Nat × Nat × Nat)} {R : Room} {G : xGt} {X : xXt} (B : xB l D e0 own cc nL ret hh R G X) {pc : Nat} {lv : List (Nat × Value)} {st : List Value} {cs : List va_W} {k n : Nat} {ci : Nat} {C : String} {T : u_T} {N : Nat} {ty : Nat → FieldType}  {a index : Nat} {ref : String} {fs : List Value} {v : Value} {t0 : FieldType} {ch ch1 : va_W} (hc : xCl ci C T N ty) (i j f : Nat) (cs1 : List va_W) (hi : cs[i]? = some ch) (hj : ch[j]? = some (a, .inr (ci, fs))) (hf : f < N) (hw : Cond.fieldLink own index ref (T f).2.1 (T f).2.2.1 ∈ lw_tbl) (hw2 : Cond.sameField ref (T f).1 (T f).2.1 (T f).2.2.1 ∈ lw_tbl) (hfin : (T f).2.2.2 = false) (ht : ty f = t0) (hna : narrow t0 v = v) (hfi : fits t0 v = true) (hl : f < fs.length) (hs : ch.set j (a, .inr (ci, fs.set f v)) = ch1) (hcs : cs.set i ch1 = cs1) (hdg : decode cc pc = .ok (.putfield index, 3)) (kk : G (pc + 3) lv st cs1 k n) : G pc lv (v :: .ref a :: st) cs k n := by
  obtain ⟨p, e, s, m, args, below, meth, c, A, Q, rfl, rfl, hx, hb, hml, hown, hts, hret, htab, hZ, hA, hlk, htr⟩ := B
  intro H locs ls hP hD hS hL
  subst ht
  subst hs
  subst hcs
  obtain ⟨q0, hq, hset⟩ := xfl_at hi hj
  refine va_put hx hb hts hc.2.1 ty hc.2.2.1 hc.2.2.2 hown hZ.1 hP hD hS q0 hq hc.1 f hf (hts _ (xT_mem hw rfl)) (u_same (hts _ (xT_mem hw2 rfl))) hfin (hc.2.2.1 f hf) hna hfi hl hdg (fun H1 locs1 hP1 hD1 hS1 => ?_)
  rw [hset] at hP1 hD1
  exact kk H1 locs1 ls hP1 hD1 hS1 hL
theorem x_iald {l : Launch} {D : va_G} {e0 : Nat} {own : String} {cc : ByteArray} {nL : Nat} {ret : Option FieldType} {hh : List (Nat × Nat × Nat × Nat)} {R : Room} {G : xGt} {X : xXt} (B : xB l D e0 own cc nL ret hh R G X) {pc : Nat} {lv : List (Nat × Value)} {st : List Value} {cs : List va_W} {k n : Nat}  {a m0 : Nat} {f0 : Nat → Int32} {ix : Int32} {ch : va_W} (i j : Nat) (hi : cs[i]? = some ch) (hj : ch[j]? = some (a, .inl (D.1 10, m0, .inl f0))) (hin : vp_in ix m0) (hdg : decode cc pc = .ok (.iaload, 1)) (kk : G (pc + 1) lv (.int (f0 ix.toNatClampNeg) :: st) cs k n) : G pc lv (.int ix :: .ref a :: st) cs k n := by
  obtain ⟨p, e, s, m, args, below, meth, c, A, Q, rfl, rfl, hx, hb, hml, hown, hts, hret, htab, hZ, hA, hlk, htr⟩ := B
  intro H locs ls hP hD hS hL
  obtain ⟨q0, hq⟩ := xfl_mem hi hj
  exact va_iald hx hb hZ.1 hP q0 0 hq rfl hin hdg (kk H locs ls hP hD hS hL)
theorem x_kald {l : Launch} {D : va_G} {e0 : Nat} {own : String} {cc : ByteArray} {nL : Nat} {ret : Option FieldType} {hh : List (Nat × Nat × Nat × Nat)} {R : Room} {G : xGt} {X : xXt} (B : xB l D e0 own cc nL ret hh R G X) {pc : Nat} {lv : List (Nat × Value)} {st : List Value} {cs : List va_W} {k n : Nat}  {a m0 : Nat} {f0 : Nat → Option Nat} {ix : Int32} {ch : va_W} (i j : Nat) (hi : cs[i]? = some ch) (hj : ch[j]? = some (a, .inl (D.1 13, m0, .inr (.inr (.inr (.inr f0)))))) (hin : vp_in ix m0) (hdg : decode cc pc = .ok (.aaload, 1)) (kk : G (pc + 1) lv (va_rf (f0 ix.toNatClampNeg) :: st) cs k n) : G pc lv (.int ix :: .ref a :: st) cs k n := by
  obtain ⟨p, e, s, m, args, below, meth, c, A, Q, rfl, rfl, hx, hb, hml, hown, hts, hret, htab, hZ, hA, hlk, htr⟩ := B
  intro H locs ls hP hD hS hL
  obtain ⟨q0, hq⟩ := xfl_mem hi hj
  exact va_aldq hx hb hZ.1 hP q0 3 hq rfl hin hdg (kk H locs ls hP hD hS hL)
theorem x_oald {l : Launch} {D : va_G} {e0 : Nat} {own : String} {cc : ByteArray} {nL : Nat} {ret : Option FieldType} {hh : List (Nat × Nat × Nat × Nat)} {R : Room} {G : xGt} {X : xXt} (B : xB l D e0 own cc nL ret hh R G X) {pc : Nat} {lv : List (Nat × Value)} {st : List Value} {cs : List va_W} {k n : Nat}  {a m0 : Nat} {f0 : Nat → Option Nat} {ix : Int32} {ch : va_W} (i j : Nat) (hi : cs[i]? = some ch) (hj : ch[j]? = some (a, .inl (D.1 14, m0, .inr (.inr (.inr (.inr f0)))))) (hin : vp_in ix m0) (hdg : decode cc pc = .ok (.aaload, 1)) (kk : G (pc + 1) lv (va_rf (f0 ix.toNatClampNeg) :: st) cs k n) : G pc lv (.int ix :: .ref a :: st) cs k n := by
  obtain ⟨p, e, s, m, args, below, meth, c, A, Q, rfl, rfl, hx, hb, hml, hown, hts, hret, htab, hZ, hA, hlk, htr⟩ := B
  intro H locs ls hP hD hS hL
  obtain ⟨q0, hq⟩ := xfl_mem hi hj
  exact va_aldq hx hb hZ.1 hP q0 4 hq rfl hin hdg (kk H locs ls hP hD hS hL)
theorem x_iast {l : Launch} {D : va_G} {e0 : Nat} {own : String} {cc : ByteArray} {nL : Nat} {ret : Option FieldType} {hh : List (Nat × Nat × Nat × Nat)} {R : Room} {G : xGt} {X : xXt} (B : xB l D e0 own cc nL ret hh R G X) {pc : Nat} {lv : List (Nat × Value)} {st : List Value} {cs : List va_W} {k n : Nat}  {a m0 : Nat} {f0 : Nat → Int32} {ix : Int32} {x : Int32} {ch ch1 : va_W} (i j : Nat) (cs1 : List va_W) (hi : cs[i]? = some ch) (hj : ch[j]? = some (a, .inl (D.1 10, m0, .inl f0))) (hin : vp_in ix m0) (hs : ch.set j (a, .inl (D.1 10, m0, .inl (upd f0 ix.toNatClampNeg x))) = ch1) (hcs : cs.set i ch1 = cs1) (hdg : decode cc pc = .ok (.iastore, 1)) (kk : G (pc + 1) lv st cs1 k n) : G pc lv (.int x :: .int ix :: .ref a :: st) cs k n := by
  obtain ⟨p, e, s, m, args, below, meth, c, A, Q, rfl, rfl, hx, hb, hml, hown, hts, hret, htab, hZ, hA, hlk, htr⟩ := B
  intro H locs ls hP hD hS hL
  subst hs
  subst hcs
  obtain ⟨q0, hq, hset⟩ := xfl_at hi hj
  refine va_iast hx hb hZ.1 hP hD hS q0 0 hq rfl hin hdg (fun H1 locs1 hP1 hD1 hS1 => ?_)
  rw [hset] at hP1 hD1
  exact kk H1 locs1 ls hP1 hD1 hS1 hL
theorem x_alen {l : Launch} {D : va_G} {e0 : Nat} {own : String} {cc : ByteArray} {nL : Nat} {ret : Option FieldType} {hh : List (Nat × Nat × Nat × Nat)} {R : Room} {G : xGt} {X : xXt} (B : xB l D e0 own cc nL ret hh R G X) {pc : Nat} {lv : List (Nat × Value)} {st : List Value} {cs : List va_W} {k n : Nat}  {a : Nat} {x0 : vp_A} {cA : ClassId} {v : Int32} {ch : va_W} (i j t0 : Nat) {fty : FieldType} (hi : cs[i]? = some ch) (hj : ch[j]? = some (a, .inl (cA, x0))) (ht : (xTY D)[t0]? = some (cA, fty)) (hv : Int32.ofNat x0.1 = v) (hdg : decode cc pc = .ok (.arraylength, 1)) (kk : G (pc + 1) lv (.int v :: st) cs k n) : G pc lv (.ref a :: st) cs k n := by
  obtain ⟨p, e, s, m, args, below, meth, c, A, Q, rfl, rfl, hx, hb, hml, hown, hts, hret, htab, hZ, hA, hlk, htr⟩ := B
  intro H locs ls hP hD hS hL
  obtain ⟨q0, hq⟩ := xfl_mem hi hj
  exact va_alen hx hb hZ.1 hP q0 t0 hq ht hv hdg (kk H locs ls hP hD hS hL)
theorem x_new {l : Launch} {D : va_G} {e0 : Nat} {own : String} {cc : ByteArray} {nL : Nat} {ret : Option FieldType} {hh : List (Nat × Nat × Nat × Nat)} {R : Room} {G : xGt} {X : xXt} (B : xB l D e0 own cc nL ret hh R G X) {pc : Nat} {lv : List (Nat × Value)} {st : List Value} {cs : List va_W} {k n : Nat} {ci : Nat} {C : String} {T : u_T} {N : Nat} {ty : Nat → FieldType}  {index : Nat} {fs : List Value} (hc : xCl ci C T N ty) (h1 : Cond.classLink own index C ∈ lw_tbl) (h2 : Cond.instantiable C N ∈ lw_tbl) (h3 : Cond.initialized C ∈ lw_tbl) (hfs : ∀ j, j < N → defaultValue (ty j) = vp_V fs j) (hk : k + 1 ≤ R.cells) (hn : n + N ≤ R.slots) (hdg : decode cc pc = .ok (.new index, 3)) (kk : ∀ q : Nat, G (pc + 3) lv (.ref q :: st) (cs ++ [[(q, .inr (ci, fs))]]) (k + 1) (n + N)) : G pc lv st cs k n := by
  obtain ⟨p, e, s, m, args, below, meth, c, A, Q, rfl, rfl, hx, hb, hml, hown, hts, hret, htab, hZ, hA, hlk, htr⟩ := B
  intro H locs ls hP hD hS hL
  refine va_new hx hb hts hc.2.1 ty hc.2.2.1 hown (hts _ (xT_mem h1 rfl)) (hts _ (xT_mem h2 rfl)) (hts _ (xT_mem h3 rfl)) hZ.1 hP hD hS hA hc.1 hfs hk hn hdg (fun q H1 hP1 hD1 hS1 => ?_)
  exact kk q H1 locs ls (by simpa using hP1) (by simpa using hD1) hS1 hL
theorem x_newI {l : Launch} {D : va_G} {e0 : Nat} {own : String} {cc : ByteArray} {nL : Nat} {ret : Option FieldType} {hh : List (Nat × Nat × Nat × Nat)} {R : Room} {G : xGt} {X : xXt} (B : xB l D e0 own cc nL ret hh R G X) {pc : Nat} {lv : List (Nat × Value)} {st : List Value} {cs : List va_W} {k n : Nat}  {ix : Int32} (N9 : Nat) (h1 : Cond.arrayClass .int ∈ lw_tbl) (h0 : ¬ ix < 0) (hN : ix.toNatClampNeg = N9) (hby : N9 ≤ 60000000) (hk : k + 1 ≤ R.cells) (hn : n + N9 ≤ R.slots) (hdg : decode cc pc = .ok (.newarray .int, 2)) (kk : ∀ q : Nat, G (pc + 2) lv (.ref q :: st) (cs ++ [[(q, .inl (D.1 10, N9, .inl (fun _ => 0)))]]) (k + 1) (n + N9)) : G pc lv (.int ix :: st) cs k n := by
  obtain ⟨p, e, s, m, args, below, meth, c, A, Q, rfl, rfl, hx, hb, hml, hown, hts, hret, htab, hZ, hA, hlk, htr⟩ := B
  intro H locs ls hP hD hS hL
  have hb9 : N9 * componentBytes .int ≤ 536870912 := by
    have hc9 : componentBytes .int ≤ 8 := by decide
    exact Nat.le_trans (Nat.mul_le_mul_left N9 hc9) (by omega)
  refine va_newa (N' := N9) (atype := .int) (ty := .int) (a0 := (N9, .inl (fun _ => 0))) hx hb (hts _ (xT_mem h1 rfl)) rfl hZ.1 hP hD hS hA (fun cA => rfl) h0 hN hb9 hk hn hdg (fun q cA H1 hK1 hP1 hD1 hS1 => ?_)
  have e1 := (hK1.2 5 (cA, .int) rfl).2
  have e2 := (hZ.1.2 0 (D.1 10, .int) rfl).2
  have e3 : cA = D.1 10 := Option.some.inj (e1.symm.trans e2)
  subst e3
  exact kk q H1 locs ls (by simpa using hP1) (by simpa using hD1) hS1 hL
theorem x_newK {l : Launch} {D : va_G} {e0 : Nat} {own : String} {cc : ByteArray} {nL : Nat} {ret : Option FieldType} {hh : List (Nat × Nat × Nat × Nat)} {R : Room} {G : xGt} {X : xXt} (B : xB l D e0 own cc nL ret hh R G X) {pc : Nat} {lv : List (Nat × Value)} {st : List Value} {cs : List va_W} {k n : Nat}  {ix : Int32} {index : Nat} (N9 : Nat) (h1 : Cond.classLink own index "CreditLinks$Link" ∈ lw_tbl) (h0 : ¬ ix < 0) (hN : ix.toNatClampNeg = N9) (hby : N9 ≤ 60000000) (hk : k + 1 ≤ R.cells) (hn : n + N9 ≤ R.slots) (hdg : decode cc pc = .ok (.anewarray index, 3)) (kk : ∀ q : Nat, G (pc + 3) lv (.ref q :: st) (cs ++ [[(q, .inl (D.1 13, N9, .inr (.inr (.inr (.inr (fun _ => none))))))]]) (k + 1) (n + N9)) : G pc lv (.int ix :: st) cs k n := by
  obtain ⟨p, e, s, m, args, below, meth, c, A, Q, rfl, rfl, hx, hb, hml, hown, hts, hret, htab, hZ, hA, hlk, htr⟩ := B
  intro H locs ls hP hD hS hL
  refine va_newq hx hb hown (hts _ (xT_mem h1 rfl)) hZ.2.1.2.2.2.1.1 hZ.1 hP hD hS hA h0 hN (by omega) hk hn hdg (fun q cA H1 hK1 hP1 hD1 hS1 => ?_)
  have e1 := (hK1.2 5 (cA, .object "CreditLinks$Link") rfl).2
  have e2 := (hZ.1.2 3 (D.1 13, .object "CreditLinks$Link") rfl).2
  have e3 : cA = D.1 13 := Option.some.inj ((va_nmO e1 rfl).symm.trans (va_nmO e2 rfl))
  subst e3
  exact kk q H1 locs ls (by simpa using hP1) (by simpa using hD1) hS1 hL
theorem x_newO {l : Launch} {D : va_G} {e0 : Nat} {own : String} {cc : ByteArray} {nL : Nat} {ret : Option FieldType} {hh : List (Nat × Nat × Nat × Nat)} {R : Room} {G : xGt} {X : xXt} (B : xB l D e0 own cc nL ret hh R G X) {pc : Nat} {lv : List (Nat × Value)} {st : List Value} {cs : List va_W} {k n : Nat}  {ix : Int32} {index : Nat} (N9 : Nat) (h1 : Cond.classLink own index "java/lang/Object" ∈ lw_tbl) (h0 : ¬ ix < 0) (hN : ix.toNatClampNeg = N9) (hby : N9 ≤ 60000000) (hk : k + 1 ≤ R.cells) (hn : n + N9 ≤ R.slots) (hdg : decode cc pc = .ok (.anewarray index, 3)) (kk : ∀ q : Nat, G (pc + 3) lv (.ref q :: st) (cs ++ [[(q, .inl (D.1 14, N9, .inr (.inr (.inr (.inr (fun _ => none))))))]]) (k + 1) (n + N9)) : G pc lv (.int ix :: st) cs k n := by
  obtain ⟨p, e, s, m, args, below, meth, c, A, Q, rfl, rfl, hx, hb, hml, hown, hts, hret, htab, hZ, hA, hlk, htr⟩ := B
  intro H locs ls hP hD hS hL
  refine va_newq hx hb hown (hts _ (xT_mem h1 rfl)) hZ.2.1.2.2.2.1.2 hZ.1 hP hD hS hA h0 hN (by omega) hk hn hdg (fun q cA H1 hK1 hP1 hD1 hS1 => ?_)
  have e1 := (hK1.2 5 (cA, .object "java/lang/Object") rfl).2
  have e2 := (hZ.1.2 4 (D.1 14, .object "java/lang/Object") rfl).2
  have e3 : cA = D.1 14 := Option.some.inj ((va_nmO e1 rfl).symm.trans (va_nmO e2 rfl))
  subst e3
  exact kk q H1 locs ls (by simpa using hP1) (by simpa using hD1) hS1 hL
theorem x_kast {l : Launch} {D : va_G} {e0 : Nat} {own : String} {cc : ByteArray} {nL : Nat} {ret : Option FieldType} {hh : List (Nat × Nat × Nat × Nat)} {R : Room} {G : xGt} {X : xXt} (B : xB l D e0 own cc nL ret hh R G X) {pc : Nat} {lv : List (Nat × Value)} {st : List Value} {cs : List va_W} {k n : Nat}  {a b m0 : Nat} {f0 : Nat → Option Nat} {ix : Int32} {vs : List Value} {ch ch1 ch2 : va_W} (i j i2 j2 : Nat) (cs1 : List va_W) (hi : cs[i]? = some ch) (hj : ch[j]? = some (a, .inl (D.1 13, m0, .inr (.inr (.inr (.inr f0)))))) (hi2 : cs[i2]? = some ch2) (hj2 : ch2[j2]? = some (b, .inr (2, vs))) (hin : vp_in ix m0) (hs : ch.set j (a, .inl (D.1 13, m0, .inr (.inr (.inr (.inr (va_up f0 ix.toNatClampNeg (some b))))))) = ch1) (hcs : cs.set i ch1 = cs1) (hdg : decode cc pc = .ok (.aastore, 1)) (kk : G (pc + 1) lv st cs1 k n) : G pc lv (.ref b :: .int ix :: .ref a :: st) cs k n := by
  obtain ⟨p, e, s, m, args, below, meth, c, A, Q, rfl, rfl, hx, hb, hml, hown, hts, hret, htab, hZ, hA, hlk, htr⟩ := B
  intro H locs ls hP hD hS hL
  subst hs
  subst hcs
  obtain ⟨q0, hq, hset⟩ := xfl_at hi hj
  obtain ⟨q2, hq2⟩ := xfl_mem hi2 hj2
  refine va_astq (r := (RX1, TX1, 4)) hx hb hZ.1 hP hD hS q0 3 q2 2 hq rfl hq2 rfl hin hdg (fun H1 locs1 hP1 hD1 hS1 => ?_)
  rw [hset] at hP1 hD1
  exact kk H1 locs1 ls hP1 hD1 hS1 hL
theorem x_oast {l : Launch} {D : va_G} {e0 : Nat} {own : String} {cc : ByteArray} {nL : Nat} {ret : Option FieldType} {hh : List (Nat × Nat × Nat × Nat)} {R : Room} {G : xGt} {X : xXt} (B : xB l D e0 own cc nL ret hh R G X) {pc : Nat} {lv : List (Nat × Value)} {st : List Value} {cs : List va_W} {k n : Nat}  {a b m0 : Nat} {f0 : Nat → Option Nat} {ix : Int32} {vs : List Value} {ch ch1 ch2 : va_W} (i j i2 j2 : Nat) (cs1 : List va_W) (hi : cs[i]? = some ch) (hj : ch[j]? = some (a, .inl (D.1 14, m0, .inr (.inr (.inr (.inr f0)))))) (hi2 : cs[i2]? = some ch2) (hj2 : ch2[j2]? = some (b, .inr (1, vs))) (hin : vp_in ix m0) (hs : ch.set j (a, .inl (D.1 14, m0, .inr (.inr (.inr (.inr (va_up f0 ix.toNatClampNeg (some b))))))) = ch1) (hcs : cs.set i ch1 = cs1) (hdg : decode cc pc = .ok (.aastore, 1)) (kk : G (pc + 1) lv st cs1 k n) : G pc lv (.ref b :: .int ix :: .ref a :: st) cs k n := by
  obtain ⟨p, e, s, m, args, below, meth, c, A, Q, rfl, rfl, hx, hb, hml, hown, hts, hret, htab, hZ, hA, hlk, htr⟩ := B
  intro H locs ls hP hD hS hL
  subst hs
  subst hcs
  obtain ⟨q0, hq, hset⟩ := xfl_at hi hj
  obtain ⟨q2, hq2⟩ := xfl_mem hi2 hj2
  refine va_astqO (r := (RX0, TX0, 12)) (E := "java/lang/Object") hx hb hZ.1 hP hD hS q0 4 q2 1 hq rfl (hZ.2.1.2.1 ("CreditLinks$Delivery", "java/lang/Object") (by simp [xNC])) hq2 rfl hin hdg (fun H1 locs1 hP1 hD1 hS1 => ?_)
  rw [hset] at hP1 hD1
  exact kk H1 locs1 ls hP1 hD1 hS1 hL
theorem x_oastnull {l : Launch} {D : va_G} {e0 : Nat} {own : String} {cc : ByteArray} {nL : Nat} {ret : Option FieldType} {hh : List (Nat × Nat × Nat × Nat)} {R : Room} {G : xGt} {X : xXt} (B : xB l D e0 own cc nL ret hh R G X) {pc : Nat} {lv : List (Nat × Value)} {st : List Value} {cs : List va_W} {k n : Nat}  {a m0 : Nat} {f0 : Nat → Option Nat} {ix : Int32} {ch ch1 : va_W} (i j : Nat) (cs1 : List va_W) (hi : cs[i]? = some ch) (hj : ch[j]? = some (a, .inl (D.1 14, m0, .inr (.inr (.inr (.inr f0)))))) (hin : vp_in ix m0) (hs : ch.set j (a, .inl (D.1 14, m0, .inr (.inr (.inr (.inr (va_up f0 ix.toNatClampNeg none)))))) = ch1) (hcs : cs.set i ch1 = cs1) (hdg : decode cc pc = .ok (.aastore, 1)) (kk : G (pc + 1) lv st cs1 k n) : G pc lv (.null :: .int ix :: .ref a :: st) cs k n := by
  obtain ⟨p, e, s, m, args, below, meth, c, A, Q, rfl, rfl, hx, hb, hml, hown, hts, hret, htab, hZ, hA, hlk, htr⟩ := B
  intro H locs ls hP hD hS hL
  subst hs
  subst hcs
  obtain ⟨q0, hq, hset⟩ := xfl_at hi hj
  refine va_astqN hx hb hZ.1 hP hD hS q0 4 hq rfl hin hdg (fun H1 locs1 hP1 hD1 hS1 => ?_)
  rw [hset] at hP1 hD1
  exact kk H1 locs1 ls hP1 hD1 hS1 hL
theorem x_cast {l : Launch} {D : va_G} {e0 : Nat} {own : String} {cc : ByteArray} {nL : Nat} {ret : Option FieldType} {hh : List (Nat × Nat × Nat × Nat)} {R : Room} {G : xGt} {X : xXt} (B : xB l D e0 own cc nL ret hh R G X) {pc : Nat} {lv : List (Nat × Value)} {st : List Value} {cs : List va_W} {k n : Nat} {ci : Nat} {C : String} {T : u_T} {N : Nat} {ty : Nat → FieldType}  {a index : Nat} {fs : List Value} {ch : va_W} (hc : xCl ci C T N ty) (i j : Nat) (hi : cs[i]? = some ch) (hj : ch[j]? = some (a, .inr (ci, fs))) (hw : Cond.classLink own index C ∈ lw_tbl) (hdg : decode cc pc = .ok (.checkcast index, 3)) (kk : G (pc + 3) lv (.ref a :: st) cs k n) : G pc lv (.ref a :: st) cs k n := by
  obtain ⟨p, e, s, m, args, below, meth, c, A, Q, rfl, rfl, hx, hb, hml, hown, hts, hret, htab, hZ, hA, hlk, htr⟩ := B
  intro H locs ls hP hD hS hL
  obtain ⟨q0, hq⟩ := xfl_mem hi hj
  exact va_castS hx hb hown (hts _ (xT_mem hw rfl)) (hZ.1.1 ci _ hc.1).2 (va_recv hZ.1 hP hc.1 hq) hdg (kk H locs ls hP hD hS hL)
theorem x_objInit {l : Launch} {D : va_G} {e0 : Nat} {own : String} {cc : ByteArray} {nL : Nat} {ret : Option FieldType} {hh : List (Nat × Nat × Nat × Nat)} {R : Room} {G : xGt} {X : xXt} (B : xB l D e0 own cc nL ret hh R G X) {pc : Nat} {lv : List (Nat × Value)} {st : List Value} {cs : List va_W} {k n : Nat}  {a index : Nat} (hw : Cond.methodLink own index Lib.objectInit ∈ lw_tbl) (hw2 : Cond.instanceMethod Lib.objectInit ∈ lw_tbl) (hw3 : Cond.code Lib.objectInit ⟨#[0xb1]⟩ 1 none ∈ lw_tbl) (hf : 1 ≤ R.frames) (hlo : (st.map fun v => v.category).sum + 12 ≤ R.locals) (hdg : decode cc pc = .ok (.invokespecial index, 3)) (kk : G (pc + 3) lv st cs k n) : G pc lv (.ref a :: st) cs k n := by
  obtain ⟨p, e, s, m, args, below, meth, c, A, Q, rfl, rfl, hx, hb, hml, hown, hts, hret, htab, hZ, hA, hlk, htr⟩ := B
  intro H locs ls hP hD hS hL
  exact W.objInit hx hb hown (hts _ (xT_mem hw rfl)) (hts _ (xT_mem hw2 rfl)) (hts _ (xT_mem hw3 rfl)) rfl (hL.1.trans hml.symm) rfl hdg hf (by show 2 * 0 + _ + 12 ≤ _; omega) (kk H locs ls hP hD hS hL)
theorem x_mmax {l : Launch} {D : va_G} {e0 : Nat} {own : String} {cc : ByteArray} {nL : Nat} {ret : Option FieldType} {hh : List (Nat × Nat × Nat × Nat)} {R : Room} {G : xGt} {X : xXt} (B : xB l D e0 own cc nL ret hh R G X) {pc : Nat} {lv : List (Nat × Value)} {st : List Value} {cs : List va_W} {k n : Nat}  {x y : Int32} {index : Nat} (hw : Cond.methodLink own index Lib.Math.max.name ∈ lw_tbl) (hw2 : Cond.static Lib.Math.max.name ∈ lw_tbl) (hw3 : Cond.initialized "java/lang/Math" ∈ lw_tbl) (hw4 : Cond.code Lib.Math.max.name Lib.Math.max.code 2 (some .int) ∈ lw_tbl) (hf : 1 ≤ R.frames) (hlo : (st.map fun v => v.category).sum + 13 ≤ R.locals) (hk : k ≤ R.cells) (hn : n ≤ R.slots) (hdg : decode cc pc = .ok (.invokestatic index, 3)) (kk : G (pc + 3) lv (.int (if x < y then y else x) :: st) cs k n) : G pc lv (.int y :: .int x :: st) cs k n := by
  obtain ⟨p, e, s, m, args, below, meth, c, A, Q, rfl, rfl, hx, hb, hml, hown, hts, hret, htab, hZ, hA, hlk, htr⟩ := B
  intro H locs ls hP hD hS hL
  exact va_mmax hx hb (hml.trans hL.1.symm) hown (hts _ (xT_mem hw rfl)) (hts _ (xT_mem hw2 rfl)) (hts _ (xT_mem hw3 rfl)) (hts _ (xT_mem hw4 rfl)) hf hlo hk hn hdg (kk H locs ls hP hD hS hL)
theorem x_mmin {l : Launch} {D : va_G} {e0 : Nat} {own : String} {cc : ByteArray} {nL : Nat} {ret : Option FieldType} {hh : List (Nat × Nat × Nat × Nat)} {R : Room} {G : xGt} {X : xXt} (B : xB l D e0 own cc nL ret hh R G X) {pc : Nat} {lv : List (Nat × Value)} {st : List Value} {cs : List va_W} {k n : Nat}  {x y : Int32} {index : Nat} (hw : Cond.methodLink own index Lib.Math.min.name ∈ lw_tbl) (hw2 : Cond.static Lib.Math.min.name ∈ lw_tbl) (hw3 : Cond.initialized "java/lang/Math" ∈ lw_tbl) (hw4 : Cond.code Lib.Math.min.name Lib.Math.min.code 2 (some .int) ∈ lw_tbl) (hf : 1 ≤ R.frames) (hlo : (st.map fun v => v.category).sum + 13 ≤ R.locals) (hk : k ≤ R.cells) (hn : n ≤ R.slots) (hdg : decode cc pc = .ok (.invokestatic index, 3)) (kk : G (pc + 3) lv (.int (if y < x then y else x) :: st) cs k n) : G pc lv (.int y :: .int x :: st) cs k n := by
  obtain ⟨p, e, s, m, args, below, meth, c, A, Q, rfl, rfl, hx, hb, hml, hown, hts, hret, htab, hZ, hA, hlk, htr⟩ := B
  intro H locs ls hP hD hS hL
  exact va_mmin hx hb (hml.trans hL.1.symm) hown (hts _ (xT_mem hw rfl)) (hts _ (xT_mem hw2 rfl)) (hts _ (xT_mem hw3 rfl)) (hts _ (xT_mem hw4 rfl)) hf hlo hk hn hdg (kk H locs ls hP hD hS hL)
theorem x_gets0 {l : Launch} {D : va_G} {e0 : Nat} {own : String} {cc : ByteArray} {nL : Nat} {ret : Option FieldType} {hh : List (Nat × Nat × Nat × Nat)} {R : Room} {G : xGt} {X : xXt} (B : xB l D e0 own cc nL ret hh R G X) {pc : Nat} {lv : List (Nat × Value)} {st : List Value} {cs : List va_W} {k n : Nat}  {index : Nat} (hw : Cond.fieldLink own index "java/util/ArrayList" "DEFAULTCAPACITY_EMPTY_ELEMENTDATA" "[Ljava/lang/Object;" ∈ lw_tbl) (hdg : decode cc pc = .ok (.getstatic index, 3)) (kk : G (pc + 3) lv (.ref e0 :: st) cs k n) : G pc lv st cs k n := by
  obtain ⟨p, e, s, m, args, below, meth, c, A, Q, rfl, rfl, hx, hb, hml, hown, hts, hret, htab, hZ, hA, hlk, htr⟩ := B
  intro H locs ls hP hD hS hL
  exact va_gets hx hb hZ.2.2.1 hS hown (hts _ (xT_mem hw rfl)) (fun _ h => h) hdg (kk H locs ls hP hD hS hL)
theorem x_len0 {l : Launch} {D : va_G} {e0 : Nat} {own : String} {cc : ByteArray} {nL : Nat} {ret : Option FieldType} {hh : List (Nat × Nat × Nat × Nat)} {R : Room} {G : xGt} {X : xXt} (B : xB l D e0 own cc nL ret hh R G X) {pc : Nat} {lv : List (Nat × Value)} {st : List Value} {cs : List va_W} {k n : Nat}  (hdg : decode cc pc = .ok (.arraylength, 1)) (kk : G (pc + 1) lv (.int 0 :: st) cs k n) : G pc lv (.ref e0 :: st) cs k n := by
  obtain ⟨p, e, s, m, args, below, meth, c, A, Q, rfl, rfl, hx, hb, hml, hown, hts, hret, htab, hZ, hA, hlk, htr⟩ := B
  intro H locs ls hP hD hS hL
  exact va_tlen hx hb hZ.2.2.2.1 hS rfl hdg (kk H locs ls hP hD hS hL)
theorem x_ne0 {l : Launch} {D : va_G} {e0 : Nat} {own : String} {cc : ByteArray} {nL : Nat} {ret : Option FieldType} {hh : List (Nat × Nat × Nat × Nat)} {R : Room} {G : xGt} {X : xXt} (B : xB l D e0 own cc nL ret hh R G X) {pc : Nat} {lv : List (Nat × Value)} {st : List Value} {cs : List va_W} {k n : Nat}  {a : Nat} {x0 : va_E} {ch : va_W} (i j : Nat) (hi : cs[i]? = some ch) (hj : ch[j]? = some (a, x0)) (kk : a ≠ e0 → G pc lv st cs k n) : G pc lv st cs k n := by
  obtain ⟨p, e, s, m, args, below, meth, c, A, Q, rfl, rfl, hx, hb, hml, hown, hts, hret, htab, hZ, hA, hlk, htr⟩ := B
  intro H locs ls hP hD hS hL
  obtain ⟨q0, hq⟩ := xfl_mem hi hj
  obtain ⟨cell, -, -, -, -, -, -, h7⟩ := hZ.2.2.2.1
  exact kk (fun e => h7 (by rw [← e]; exact hD.2 q0 _ hq)) H locs ls hP hD hS hL
