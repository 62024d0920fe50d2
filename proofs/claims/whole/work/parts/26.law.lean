/-! THE CLAIM OUT OF ONE WALK OF THE LAW'S BODY. Your part is whole_start (and what it stands on); all else here is the same for every law, but numbers. -/
def R_law : String := "CreditLinksLaw"
def lw_P (b : Addr) (xs : List Int32) (args : Array Value) (s : State) : Prop := args = #[.ref b] ∧ s.IntsAt b xs ∧ xs.length ≤ 1536 ∧ (Jvm.Cond.and given_1 narrow_1).before args s = true
def lw_Q (_ : Array Value) (s : State) (o : Outcome) (t : State) : Prop := o = .returned (some (.int 1)) ∧ Framed s o t [] 601024 7293034
def lw_Z (below : List Frame) (a : Array Value) (s : State) : State → Prop := fun t => ∃ o, t.status = .running ∧ Ended t below o ∧ lw_Q a s o t
/-- the law's own end, with 1 on the stack, nothing written that was there before, its room as the claim has it -/
theorem lw_ret {p : Program} {l : Launch} {e : Env} {s : State} {m : MethodId} {below : List Frame} {meth : Method} {c : Code} {b : Nat} (hx : p.tables.exec = Jvm.exec) (hb : c.code = code) (hr : meth.sig.returnType = ret) (hlocks : meth.locks = false) {pc : Nat} {H : Heap} {ls : Array Slot} (hdg : decode code pc = .ok (.ireturn, 1)) : W p l e room_1 s m #[Value.ref b] below meth c H [] 601024 7293034 (lw_Z below #[Value.ref b] s) (F0 m pc ls [.int 1]) := by
  intro T hT X
  obtain ⟨fs, hret, hrun, hended, hW, hframe⟩ := X.leave (v := some (.int 1)) (hlocks := hlocks) (fun h => by rw [hr] at h; cases h)
  have hmeth' : T.vm.method? m = some meth := X.method'
  refine ⟨T.setFrames fs, ?_, .returned (some (.int 1)), hrun, hended, rfl, ⟨_, rfl⟩, hW, hframe⟩
  jvm_step X.here [X.here.top, hx, hb, hdg, hmeth', hr, ret, narrow_b1]
  (try refine ⟨rfl, ?_⟩); (try refine ⟨rfl, ?_⟩)
  first | (intro acts; rw [hret _ acts rfl rfl rfl]) | rw [hret _ _ rfl rfl rfl]
  exact Steps.refl _
/-- what holds at the law's entry: the machine, the code, the tables' words (any of lw_tbl by 'hts w (by decide +kernel)'), the script of L ints xs at the cell b, what the Statement gives of the start (any of its parts by flat_of_before) -/
def lw_At (p : Program) (s : State) (m : MethodId) (meth : Method) (c : Code) (b L : Nat) (xs : Nat → Int32) : Prop :=
  p.tables.exec = Jvm.exec ∧ c.code = code ∧ meth.sig.returnType = ret ∧ c.maxLocals = 7 ∧ s.vm.findClass R_law = some m.cls ∧ (∀ w ∈ lw_tbl, w.before #[Value.ref b] s = true) ∧ va_X b L xs s s.heap ∧ b < s.heap.size ∧ meth.locks = false ∧ (Jvm.Cond.and given_1 narrow_1).before #[Value.ref b] s = true

/-! LIB L: the law's own walk -/
def xL (l : Launch) (D : va_G) (e0 b Ls : Nat) (xs : Nat → Int32) (G : xGt) (X : xXt) : Prop :=
  ∃ (p : Program) (e : Env) (s : State) (m : MethodId) (below : List Frame) (meth : Method) (c : Code) (A : Nat → Prop) (hh : List (Nat × Nat × Nat × Nat)),
    G = xG p l e room_1 s m #[Value.ref b] below meth c (lw_Z below #[Value.ref b] s) D A 7 ∧ X = xX p l e room_1 s m #[Value.ref b] below meth c (lw_Z below #[Value.ref b] s) D A 7 ∧ p.tables.exec = Jvm.exec ∧ c.code = cL_law ∧ c.maxLocals = 7 ∧ s.vm.findClass "CreditLinksLaw" = some m.cls ∧ xFx p l s m #[Value.ref b] meth c D e0 A 7 "CreditLinksLaw" cL_law (some .boolean) hh ∧ va_X b Ls xs s s.heap ∧ b < s.heap.size ∧ ¬ A b ∧ A = (fun q => s.heap.size ≤ q)
theorem xL.base {l : Launch} {D : va_G} {e0 b Ls : Nat} {xs : Nat → Int32} {G : xGt} {X : xXt} (h : xL l D e0 b Ls xs G X) : ∃ hh, xB l D e0 "CreditLinksLaw" cL_law 7 (some .boolean) hh room_1 G X := by
  obtain ⟨p, e, s, m, below, meth, c, A, hh, h1, h2, hx, hb, hml, hown, hF, hX, hbl, hbA, hA9⟩ := h
  exact ⟨hh, p, e, s, m, _, below, meth, c, A, _, h1, h2, hx, hb, hml, hown, hF⟩
theorem x_sldN {l : Launch} {D : va_G} {e0 b Ls : Nat} {xs : Nat → Int32} {G : xGt} {X : xXt} (B : xL l D e0 b Ls xs G X) {pc : Nat} {lv : List (Nat × Value)} {st : List Value} {cs : List va_W} {k n : Nat} {d : Nat} (hd : d < Ls) (hLs : Ls < 2 ^ 31) (hdg : decode cL_law pc = .ok (.iaload, 1)) (kk : G (pc + 1) lv (.int (xs d) :: st) cs k n) : G pc lv (.int (nI d) :: .ref b :: st) cs k n := by
  obtain ⟨p, e, s, m, below, meth, c, A, hh, rfl, rfl, hx, hb, hml, hown, ⟨hts, hret, htab, hZ, hA, hlk, htr⟩, hX, hbl, hbA, rfl⟩ := B
  intro H locs ls hP hD hS hL
  refine va_sld hx hb hX hbl hbA hS (vp_in_nI hd hLs) hdg ?_
  rw [nI_clamp (Nat.lt_trans hd hLs)]
  exact kk H locs ls hP hD hS hL
theorem x_slen {l : Launch} {D : va_G} {e0 b Ls : Nat} {xs : Nat → Int32} {G : xGt} {X : xXt} (B : xL l D e0 b Ls xs G X) {pc : Nat} {lv : List (Nat × Value)} {st : List Value} {cs : List va_W} {k n : Nat} (hdg : decode cL_law pc = .ok (.arraylength, 1)) (kk : G (pc + 1) lv (.int (nI Ls) :: st) cs k n) : G pc lv (.ref b :: st) cs k n := by
  obtain ⟨p, e, s, m, below, meth, c, A, hh, rfl, rfl, hx, hb, hml, hown, ⟨hts, hret, htab, hZ, hA, hlk, htr⟩, hX, hbl, hbA, rfl⟩ := B
  intro H locs ls hP hD hS hL
  exact va_slen hx hb hX hbl hbA hS hdg (kk H locs ls hP hD hS hL)
theorem x_lawend {l : Launch} {D : va_G} {e0 b Ls : Nat} {xs : Nat → Int32} {G : xGt} {X : xXt} (B : xL l D e0 b Ls xs G X) {pc : Nat} {lv : List (Nat × Value)} {cs : List va_W} {k n : Nat} (hdg : decode cL_law pc = .ok (.ireturn, 1)) (hk : k ≤ 601024) (hn : n ≤ 7293034) : G pc lv [.int 1] cs k n := by
  obtain ⟨p, e, s, m, below, meth, c, A, hh, rfl, rfl, hx, hb, hml, hown, ⟨hts, hret, htab, hZ, hA, hlk, htr⟩, hX, hbl, hbA, rfl⟩ := B
  intro H locs ls hP hD hS hL
  refine va_forget (fun q hq => hS.2.2 q hq) ?_
  refine W.widen hk hn ?_
  exact lw_ret hx hb hret hlk hdg
theorem x_tabIn {l : Launch} {D : va_G} {e0 : Nat} {own : String} {cc : ByteArray} {nL : Nat} {ret : Option FieldType} {hh : List (Nat × Nat × Nat × Nat)} {R : Room} {G : xGt} {X : xXt} (B : xB l D e0 own cc nL ret hh R G X) {pc : Nat} {lv : List (Nat × Value)} {st : List Value} {cs : List va_W} {k n : Nat} {dflt lo hi : Int} {offs : Array Int} {len : Nat} {x : Int32} {off : Int} (tgt : Nat) (hdg : decode cc pc = .ok (.tableswitch dflt lo hi offs, len)) (h1 : ¬ x.toInt < lo) (h2 : ¬ hi < x.toInt) (ho : offs[(x.toInt - lo).toNat]? = some off) (ht : (pc : Int) + off = (tgt : Int)) (kk : G tgt lv st cs k n) : G pc lv (.int x :: st) cs k n := by
  obtain ⟨p, e, s, m, args, below, meth, c, A, Q, rfl, rfl, hx, hb, hml, hown, hts, hret, htab, hZ, hA, hlk, htr⟩ := B
  intro H locs ls hP hD hS hL
  exact lv_tableIn hx hb hdg h1 h2 ho ht (kk H locs ls hP hD hS hL)
theorem x_tabOut {l : Launch} {D : va_G} {e0 : Nat} {own : String} {cc : ByteArray} {nL : Nat} {ret : Option FieldType} {hh : List (Nat × Nat × Nat × Nat)} {R : Room} {G : xGt} {X : xXt} (B : xB l D e0 own cc nL ret hh R G X) {pc : Nat} {lv : List (Nat × Value)} {st : List Value} {cs : List va_W} {k n : Nat} {dflt lo hi : Int} {offs : Array Int} {len : Nat} {x : Int32} (tgt : Nat) (hdg : decode cc pc = .ok (.tableswitch dflt lo hi offs, len)) (h : x.toInt < lo ∨ hi < x.toInt) (ht : (pc : Int) + dflt = (tgt : Int)) (kk : G tgt lv st cs k n) : G pc lv (.int x :: st) cs k n := by
  obtain ⟨p, e, s, m, args, below, meth, c, A, Q, rfl, rfl, hx, hb, hml, hown, hts, hret, htab, hZ, hA, hlk, htr⟩ := B
  intro H locs ls hP hD hS hL
  exact lv_tableOut hx hb hdg h ht (kk H locs ls hP hD hS hL)
theorem cod_nz {p q r : Bool} (h : cod p q r ≠ 0) : ¬ nI (cod p q r) = 0 := by
  cases p <;> cases q <;> cases r <;> first | decide | exact absurd rfl h
theorem out_cmp {f : Nat → Int64} {z : Int64} : lg_cmp (vp_updL f 0 z 0) z = 0 := by
  show lg_cmp (if (0 : Nat) = 0 then z else f 0) z = 0
  rw [if_pos rfl]
  unfold lg_cmp
  rw [if_neg (Int64.lt_irrefl), if_pos rfl]
theorem ix_le {lo hi : Nat} {v : Int32} (h : xinB lo hi v = true) (hh : hi < 2 ^ 31) (hl : lo < 2 ^ 31) : ix v ≤ hi := by
  obtain ⟨j, h1, h2, rfl⟩ := xinB_t h hh hl
  rw [ix_nI (by omega)]
  exact h2
/-- the world of both sides, and what holds of it -/
def wLd (D : va_G) (e0 : Nat) (ad am : Nat → Nat) (oa : Nat) (da : Nat → Nat) (hs ht : xAg) (gf gb : xRg) (om : Nat → Int32) (L S : xS) (N : Nat) (qf qb : List xFr) (up op tr : Int32) (tq : List Nat) (tf tt bf bt : Nat) (tg bg td : Nat → Int32) (th : Int32) (f : Nat → Int64) : List va_W :=
  [xoW ad up op tr, lkW D ad L, alW D e0 (ad 2) hs N, rwW D (ad 3) (ad 10) (ad 11) (ad 12) gf qf.length, rwW D (ad 4) (ad 13) (ad 14) (ad 15) gb qb.length, alW D e0 (ad 5) ht tq.length, dvW da N S om, moW am N tf tt bf bt up op tr tq.length th, mlW D am L, mdW D am S, rtW D am tg, rbW D am bg, tdW D am td, [(oa, .inl (D.1 12, 1, .inr (.inl f)))]]
def gOk (da : Nat → Nat) (hs ht : xAg) (gf gb : xRg) (om : Nat → Int32) (L S : xS) (N : Nat) (qf qb : List xFr) (up op : Int32) (tq : List Nat) (tf tt bf bt : Nat) (tg bg td : Nat → Int32) (t : Nat) : Prop :=
  aInv L S om N qf qb up op tq t ∧ (alOk hs N da ∧ alOk ht tq.length (fun i => da (tq.getD i 0)) ∧ rwOk qf gf ∧ rwOk qb gb) ∧ (mgOk encF qf tf tt tg ∧ mgOk encB qb bf bt bg ∧ ∀ i, i < tq.length → td i = nI (tq.getD i 0)) ∧ tt ≤ 1000 * t ∧ bt ≤ 1000 * t
def lTo (G : xGt) (D : va_G) (e0 : Nat) (ad am : Nat → Nat) (oa b i t k n pc : Nat) : Prop :=
  ∀ (da : Nat → Nat) (hs ht : xAg) (gf gb : xRg) (om : Nat → Int32) (L S : xS) (N : Nat) (qf qb : List xFr) (up op tr : Int32) (tq : List Nat) (tf tt bf bt : Nat) (tg bg td : Nat → Int32) (th : Int32) (f : Nat → Int64), gOk da hs ht gf gb om L S N qf qb up op tq tf tt bf bt tg bg td t →
    G pc [(4, .int (nI i)), (3, .ref oa), (2, .ref (am 0)), (1, .ref (ad 0)), (0, .ref b)] [] (wLd D e0 ad am oa da hs ht gf gb om L S N qf qb up op tr tq tf tt bf bt tg bg td th f) k n
