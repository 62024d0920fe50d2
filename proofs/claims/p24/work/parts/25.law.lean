/-! THE CLAIM OUT OF ONE WALK OF THE LAW'S BODY. Your part is whole_start (and what it stands on); all else here is the same for every law, but numbers. -/
def R_law : String := "CreditLinksLaw"
def lw_P (b : Addr) (xs : List Int32) (args : Array Value) (s : State) : Prop := args = #[.ref b] ∧ s.IntsAt b xs ∧ xs.length ≤ 260 ∧ (Jvm.Cond.and given_1 narrow_1).before args s = true
def lw_Q (_ : Array Value) (s : State) (o : Outcome) (t : State) : Prop := o = .returned (some (.int 1)) ∧ Framed s o t [] 619123 7243813
def lw_Z (below : List Frame) (a : Array Value) (s : State) : State → Prop := fun t => ∃ o, t.status = .running ∧ Ended t below o ∧ lw_Q a s o t
/-- the law's own end, with 1 on the stack, nothing written that was there before, its room as the claim has it -/
theorem lw_ret {p : Program} {l : Launch} {e : Env} {s : State} {m : MethodId} {below : List Frame} {meth : Method} {c : Code} {b : Nat} (hx : p.tables.exec = Jvm.exec) (hb : c.code = code) (hr : meth.sig.returnType = ret) (hlocks : meth.locks = false) {pc : Nat} {H : Heap} {ls : Array Slot} (hdg : decode code pc = .ok (.ireturn, 1)) : W p l e room_1 s m #[Value.ref b] below meth c H [] 619123 7243813 (lw_Z below #[Value.ref b] s) (F0 m pc ls [.int 1]) := by
  intro T hT X
  obtain ⟨fs, hret, hrun, hended, hW, hframe⟩ := X.leave (v := some (.int 1)) (hlocks := hlocks) (fun h => by rw [hr] at h; cases h)
  have hmeth' : T.vm.method? m = some meth := X.method'
  refine ⟨T.setFrames fs, ?_, .returned (some (.int 1)), hrun, hended, rfl, ⟨_, rfl⟩, hW, hframe⟩
  jvm_step X.here [X.here.top, hx, hb, hdg, hmeth', hr, ret, narrow_b1]
  (try refine ⟨rfl, ?_⟩); (try refine ⟨rfl, ?_⟩)
  first | (intro acts; rw [hret _ acts rfl rfl rfl]) | rw [hret _ _ rfl rfl rfl]
  exact Steps.refl _
/-- what holds at the law's entry: the machine, the code, the tables' words (any of lw_tbl by 'hts w (by decide +kernel)'), the script of L ints xs at the cell b, what the Statement gives of the start (any of its parts by flat_of_before) -/
def lw_At (p : Program) (s : State) (m : MethodId) (meth : Method) (c : Code) (b L : Nat) (xs : Nat → Int32) : Prop :=
  p.tables.exec = Jvm.exec ∧ c.code = code ∧ meth.sig.returnType = ret ∧ c.maxLocals = 13 ∧ s.vm.findClass R_law = some m.cls ∧ (∀ w ∈ lw_tbl, w.before #[Value.ref b] s = true) ∧ va_X b L xs s s.heap ∧ b < s.heap.size ∧ meth.locks = false ∧ (Jvm.Cond.and given_1 narrow_1).before #[Value.ref b] s = true

/-! LIB L: the law's own walk; methods that read the script -/
def xSB (l : Launch) (D : va_G) (e0 : Nat) (own : String) (cc : ByteArray) (nL : Nat) (ret : Option FieldType) (hh : List (Nat × Nat × Nat × Nat)) (R : Room) (b Ls : Nat) (xs : Nat → Int32) (G : xGt) (X : xXt) : Prop :=
  ∃ (p : Program) (e : Env) (s : State) (m : MethodId) (args : Array Value) (below : List Frame) (meth : Method) (c : Code) (A : Nat → Prop) (Q : State → Prop),
    G = xG p l e R s m args below meth c Q D A nL ∧ X = xX p l e R s m args below meth c Q D A nL ∧ p.tables.exec = Jvm.exec ∧ c.code = cc ∧ c.maxLocals = nL ∧ s.vm.findClass own = some m.cls ∧ xFx p l s m args meth c D e0 A nL own cc ret hh ∧ va_X b Ls xs s s.heap ∧ b < s.heap.size ∧ ¬ A b
theorem x_sldB {l : Launch} {D : va_G} {e0 : Nat} {own : String} {cc : ByteArray} {nL : Nat} {ret : Option FieldType} {hh : List (Nat × Nat × Nat × Nat)} {R : Room} {b Ls : Nat} {xs : Nat → Int32} {G : xGt} {X : xXt} (B : xSB l D e0 own cc nL ret hh R b Ls xs G X) {pc : Nat} {lv : List (Nat × Value)} {st : List Value} {cs : List va_W} {k n : Nat} {d : Nat} (hd : d < Ls) (hLs : Ls < 2 ^ 31) (hdg : decode cc pc = .ok (.iaload, 1)) (kk : G (pc + 1) lv (.int (xs d) :: st) cs k n) : G pc lv (.int (nI d) :: .ref b :: st) cs k n := by
  obtain ⟨p, e, s, m, args, below, meth, c, A, Q, rfl, rfl, hx, hb, hml, hown, ⟨hts, hret, htab, hZ, hA, hlk, htr⟩, hX, hbl, hbA⟩ := B
  intro H locs ls hP hD hS hL
  refine va_sld hx hb hX hbl hbA hS (vp_in_nI hd hLs) hdg ?_
  rw [nI_clamp (Nat.lt_trans hd hLs)]
  exact kk H locs ls hP hD hS hL
theorem x_slenB {l : Launch} {D : va_G} {e0 : Nat} {own : String} {cc : ByteArray} {nL : Nat} {ret : Option FieldType} {hh : List (Nat × Nat × Nat × Nat)} {R : Room} {b Ls : Nat} {xs : Nat → Int32} {G : xGt} {X : xXt} (B : xSB l D e0 own cc nL ret hh R b Ls xs G X) {pc : Nat} {lv : List (Nat × Value)} {st : List Value} {cs : List va_W} {k n : Nat} (hdg : decode cc pc = .ok (.arraylength, 1)) (kk : G (pc + 1) lv (.int (nI Ls) :: st) cs k n) : G pc lv (.ref b :: st) cs k n := by
  obtain ⟨p, e, s, m, args, below, meth, c, A, Q, rfl, rfl, hx, hb, hml, hown, ⟨hts, hret, htab, hZ, hA, hlk, htr⟩, hX, hbl, hbA⟩ := B
  intro H locs ls hP hD hS hL
  exact va_slen hx hb hX hbl hbA hS hdg (kk H locs ls hP hD hS hL)
/-- a contract of a method that reads the script and has no world -/
def xPreS (D : va_G) (e0 b Ls : Nat) (xs : Nat → Int32) (sz : Nat) (U : State) : Prop := xPre D e0 [] sz U ∧ va_X b Ls xs U U.heap ∧ b < sz
def xCS (l : Launch) (y : MethodName) (w : Cond) (rm : Room) (D : va_G) (e0 b Ls : Nat) (xs : Nat → Int32) (av : List Value) (post : Option Value → List va_W → Prop) : Prop :=
  ∀ sz : Nat, vx_Met l y (w :: xT) rm (va_Pc av (xPreS D e0 b Ls xs sz)) (xQ D (va_A ([] : List va_W).flatten sz) post) (xXC D (va_A ([] : List va_W).flatten sz) [] (fun _ => False)) rm.cells rm.slots (va_A ([] : List va_W).flatten sz)
theorem xPreS.blind {D : va_G} {e0 b Ls : Nat} {xs : Nat → Int32} {av : List Value} {sz : Nat} : FrameBlind (va_Pc av (xPreS D e0 b Ls xs sz)) := by
  intro a U g mk h
  obtain ⟨h0, ⟨h1, h2, h3, h4⟩, h5, h6⟩ := h
  exact ⟨h0, ⟨h1, h2, h3, xZ.warm (U := U.calling g mk a) (State.WarmedH.refl U) h4⟩, va_X.moved (U := U.calling g mk a) (State.WarmedH.refl U).alike h5, h6⟩
theorem xCS_of {l : Launch} {y : MethodName} {cc : ByteArray} {nL : Nat} {ret : Option FieldType} {rm : Room} {D : va_G} {e0 b Ls : Nat} {xs : Nat → Int32} {av : List Value} {post : Option Value → List va_W → Prop}
    (hl0 : l.stackTraces = false) (hy : plainFor y = true) (hargs : (lg_sl av).length ≤ nL)
    (body : ∀ (G : xGt) (X : xXt), xF l D e0 y.cls cc nL ret [] rm y.name [] post (fun _ => False) G X → xSB l D e0 y.cls cc nL ret [] rm b Ls xs G X → G 0 (lv_args 0 av) [] [] 0 0) : xCS l y (.code y cc nL ret) rm D e0 b Ls xs av post := by
  intro sz
  refine x_ofW (cc := cc) (maxL := nL) (ret := ret) (ws' := xT) hy rfl ?_
  intro p e s m args below meth c s₁ B hml ht hP
  obtain ⟨rfl, ⟨hsz, hPp, hD, hZ⟩, hX, hbl⟩ := hP
  subst hsz
  have hts := atoms_spec (ws := .code y cc nL ret :: xT) B.pre
  rw [lg_entry_eq]
  have hD2 : va_D (va_A ([] : List va_W).flatten s.heap.size) ([] : List va_W).flatten := hD.self
  have htab : c.exceptionTable.toList = tableOf [] := by
    rw [show tableOf [] = [] from rfl]
    exact List.eq_nil_iff_forall_not_mem.mpr ht
  have hFx : xFx p l s m av.toArray meth c D e0 (va_A ([] : List va_W).flatten s.heap.size) nL y.cls cc ret [] := ⟨fun w hw => hts w (List.mem_cons_of_mem _ hw), B.returns, htab, hZ, fun q h => Or.inr h, B.notSynchronized, hl0⟩
  have hbA : ¬ va_A ([] : List va_W).flatten s.heap.size b := by
    rintro (⟨k, e, h⟩ | h)
    · simp at h
    · omega
  exact body _ _ ⟨p, e, s, m, av.toArray, below, meth, c, va_A ([] : List va_W).flatten s.heap.size, _, rfl, rfl, B.exec, B.bytes, hml, findClass_of_methodNamed B.named, hFx, (name_of_methodNamed B.named B.method).1, rfl⟩ ⟨p, e, s, m, av.toArray, below, meth, c, va_A ([] : List va_W).flatten s.heap.size, _, rfl, rfl, B.exec, B.bytes, hml, findClass_of_methodNamed B.named, hFx, hX, hbl, hbA⟩ s.heap [] _ hPp hD2 va_S.rf (lv_entry av hargs)
theorem x_callD {l : Launch} {D : va_G} {e0 : Nat} {own : String} {cc : ByteArray} {nL : Nat} {ret : Option FieldType} {hh : List (Nat × Nat × Nat × Nat)} {R : Room} {b Ls : Nat} {xs : Nat → Int32} {G : xGt} {X : xXt} (B : xSB l D e0 own cc nL ret hh R b Ls xs G X) {pc : Nat} {lv : List (Nat × Value)} {st : List Value} {cs : List va_W} {k n : Nat} {index : Nat} {y : MethodName} {cc9 : ByteArray} {nL9 : Nat} {ret9 : Option FieldType} {rm : Room} {As stk : List Value} {post9 : Option Value → List va_W → Prop} (hM : xCS l y (.code y cc9 nL9 ret9) rm D e0 b Ls xs As post9) (m1 : Cond.methodLink own index y ∈ lw_tbl) (m2 : Cond.static y ∈ lw_tbl) (m4 : Cond.initialized y.cls ∈ lw_tbl) (m5 : Cond.code y cc9 nL9 ret9 ∈ lw_tbl) (hd : y.cls ≠ "java/lang/invoke/MethodHandle" ∧ y.cls ≠ "java/lang/invoke/VarHandle" ∧ (parseMethodDescriptor y.desc).map (fun d => d.parameters.length) = some As.length) (hR : rm.frames + 1 ≤ R.frames ∧ 8 + (nL9 + 11) + rm.locals ≤ R.locals) (hst : stk = As.reverse ++ st) (hcat : (st.map fun v => v.category).sum ≤ 8) (hk : k + rm.cells ≤ R.cells) (hn : n + rm.slots ≤ R.slots) (hdg : decode cc pc = .ok (.invokestatic index, 3)) (kk : ∀ (v : Option Value) (cs1 : List va_W), post9 v cs1 → G (pc + 3) lv (v.toList ++ st) (xput cs [] cs1) (k + rm.cells) (n + rm.slots)) : G pc lv stk cs k n := by
  subst hst
  obtain ⟨p, e, s, m, args, below, meth, c, A, Q, rfl, rfl, hx, hb, hml, hown, ⟨hts, hret, htab, hZ, hA, hlk, htr⟩, hX, hbl, hbA⟩ := B
  intro H locs ls hP hD hS hL
  obtain ⟨hPc, hDc⟩ := xpick (wc := []) (is := []) hP hD rfl rfl
  have hFc := xfree hDc hS hA
  have hZc := (hZ.kept hS.2.1).narrow hFc
  refine xcall_core (D := D) (wc := []) (post := post9) (xp := fun _ => False) (A := A) (vx_runS (As := As) (rest := st) (n := As.length) ⟨hx, hb, hml, hown, hts⟩ (hM H.size) (va_cwS As.length hts (xwsS m1 m2 m4 (xT_mem m5 rfl)) rfl rfl rfl hd hR) ⟨xPreS.blind, fun U hU hW => ⟨rfl, xPre_of hPc hDc hZc hU hW, by rw [hU]; exact va_X.moved hW.alike (hX.kept (hS.2.1 b hbl hbA)), Nat.lt_of_lt_of_le hbl hS.1⟩⟩ rfl rfl hL.1 rfl (lv_room hcat) hdg ⟨hk, hn⟩) hS hFc (fun E ce q9 H1 locs1 hxE hP1 hk1 hS1 h1 h2 h3 => False.elim hxE) (fun v cs1 H1 locs1 hp1 hP1 hD1 hk1 hS1 => ?_)
  obtain ⟨hP2, hD2⟩ := xjoin (wc := []) (is := []) hP hD rfl rfl hk1 hFc hP1 hD1
  exact kk v cs1 hp1 H1 locs1 ls hP2 hD2 hS1 hL
/-- the law's own frame -/
def xL (l : Launch) (D : va_G) (e0 b Ls : Nat) (xs : Nat → Int32) (G : xGt) (X : xXt) : Prop :=
  ∃ (p : Program) (e : Env) (s : State) (m : MethodId) (below : List Frame) (meth : Method) (c : Code) (A : Nat → Prop) (hh : List (Nat × Nat × Nat × Nat)),
    G = xG p l e room_1 s m #[Value.ref b] below meth c (lw_Z below #[Value.ref b] s) D A 13 ∧ X = xX p l e room_1 s m #[Value.ref b] below meth c (lw_Z below #[Value.ref b] s) D A 13 ∧ p.tables.exec = Jvm.exec ∧ c.code = cL_law ∧ c.maxLocals = 13 ∧ s.vm.findClass "CreditLinksLaw" = some m.cls ∧ xFx p l s m #[Value.ref b] meth c D e0 A 13 "CreditLinksLaw" cL_law (some .boolean) hh ∧ va_X b Ls xs s s.heap ∧ b < s.heap.size ∧ ¬ A b ∧ A = (fun q => s.heap.size ≤ q)
theorem xL.base {l : Launch} {D : va_G} {e0 b Ls : Nat} {xs : Nat → Int32} {G : xGt} {X : xXt} (h : xL l D e0 b Ls xs G X) : ∃ hh, xB l D e0 "CreditLinksLaw" cL_law 13 (some .boolean) hh room_1 G X ∧ xSB l D e0 "CreditLinksLaw" cL_law 13 (some .boolean) hh room_1 b Ls xs G X := by
  obtain ⟨p, e, s, m, below, meth, c, A, hh, h1, h2, hx, hb, hml, hown, hF, hX, hbl, hbA, hA9⟩ := h
  exact ⟨hh, ⟨p, e, s, m, _, below, meth, c, A, _, h1, h2, hx, hb, hml, hown, hF⟩, ⟨p, e, s, m, _, below, meth, c, A, _, h1, h2, hx, hb, hml, hown, hF, hX, hbl, hbA⟩⟩
theorem x_lawend {l : Launch} {D : va_G} {e0 b Ls : Nat} {xs : Nat → Int32} {G : xGt} {X : xXt} (B : xL l D e0 b Ls xs G X) {pc : Nat} {lv : List (Nat × Value)} {cs : List va_W} {k n : Nat} (hdg : decode cL_law pc = .ok (.ireturn, 1)) (hk : k ≤ 619123) (hn : n ≤ 7243813) : G pc lv [.int 1] cs k n := by
  obtain ⟨p, e, s, m, below, meth, c, A, hh, rfl, rfl, hx, hb, hml, hown, ⟨hts, hret, htab, hZ, hA, hlk, htr⟩, hX, hbl, hbA, rfl⟩ := B
  intro H locs ls hP hD hS hL
  refine va_forget (fun q hq => hS.2.2 q hq) ?_
  refine W.widen hk hn ?_
  exact lw_ret hx hb hret hlk hdg
/-- the method that reads the script -/
theorem c_L_drawn {l : Launch} (hl : l.stackTraces = false) (D : va_G) (e0 : Nat) {b Ls : Nat} {xs : Nat → Int32} {i : Nat} (hi : i < 62) (hLs : Ls ≤ 260) : xCS l yL_drawn (.code yL_drawn cL_drawn 3 (some .int)) ({ frames := 0, cells := 0, slots := 0, locals := 0 } : Room) D e0 b Ls xs [.ref b, .int (nI i)] (fun v cs => (∃ g : Nat, g < 2 ^ 30 ∧ v = some (.int (nI g))) ∧ cs = []) := by
  refine xCS_of hl (by decide +kernel) (Nat.le_of_ble_eq_true rfl) (fun G X F S0 => ?_)
  have B : xB l D e0 "CreditLinksLaw" cL_drawn 3 (some .int) [] _ G X := F.base
  have S : xSB l D e0 "CreditLinksLaw" cL_drawn 3 (some .int) [] _ b Ls xs G X := S0
  show G 0 [(0, .ref b), (1, .int (nI i))] [] [] 0 0
  have ht : ∀ x : Int32, G 21 [(0, .ref b), (1, .int (nI i))] [.int x] [] 0 0 := by
    intro x
    obtain ⟨g, hg, eg⟩ := pk_andE x (m := 1073741823) 30 (by decide)
    refine x_istore_n B (pc := 21) [(2, .int x), (0, .ref b), (1, .int (nI i))] dL_drawn_21 rfl (by decide) rfl ?_
    refine x_iload_n B (pc := 22) 0 dL_drawn_22 rfl rfl ?_
    refine x_ldc B (pc := 23) (v := 1073741823) tm175 dL_drawn_23 ?_
    refine x_iand B (pc := 25) dL_drawn_25 ?_
    exact x_iret F (pc := 26) rfl dL_drawn_26 ⟨⟨g, hg, by rw [← eg] <;> rfl⟩, rfl⟩ (Nat.le_of_ble_eq_true rfl) (Nat.le_of_ble_eq_true rfl)
  refine x_iload_n B (pc := 0) 1 dL_drawn_0 rfl rfl ?_
  refine x_aload_n B (pc := 1) 0 dL_drawn_1 rfl rfl ?_
  refine x_slenB S (pc := 2) dL_drawn_2 ?_
  refine x_icmp_ge B (pc := 3) 12 dL_drawn_3 (by decide) (fun h3 => ?_) (fun h3 => ?_)
  · refine x_sipush B (pc := 12) 12289 dL_drawn_12 (by decide) ?_
    refine x_iload_n B (pc := 15) 1 dL_drawn_15 rfl rfl ?_
    refine x_imul B (pc := 16) dL_drawn_16 ?_
    refine x_sipush B (pc := 17) 3011 dL_drawn_17 (by decide) ?_
    refine x_iadd B (pc := 20) dL_drawn_20 ?_
    exact ht _
  · have hlt : i < Ls := Nat.lt_of_not_le (fun e => h3 (nI_le e (by omega)))
    refine x_aload_n B (pc := 6) 0 dL_drawn_6 rfl rfl ?_
    refine x_iload_n B (pc := 7) 1 dL_drawn_7 rfl rfl ?_
    refine x_sldB S (pc := 8) (d := i) hlt (by omega) dL_drawn_8 ?_
    refine x_goto B (pc := 9) 21 dL_drawn_9 (by decide) ?_
    exact ht _
/-- the world of both objects, and what holds of it -/
def wLd (D : va_G) (e0 : Nat) (ad bd : Nat → Nat) (da : Nat → Nat) (hs ht : xAg) (gf gb : xRg) (om : Nat → Int32) (L S : xS) (qb : List xFr) (db : Nat → Nat) (hs2 ht2 : xAg) (gf2 gb2 : xRg) (om2 : Nat → Int32) (L2 S2 : xS) (qb2 : List xFr) (N : Nat) (qf : List xFr) (up op tr : Int32) (tq : List Nat) : List va_W :=
  [xoW ad up op tr, lkW D ad L, alW D e0 (ad 2) hs N, rwW D (ad 3) (ad 10) (ad 11) (ad 12) gf qf.length, rwW D (ad 4) (ad 13) (ad 14) (ad 15) gb qb.length, alW D e0 (ad 5) ht tq.length, dvW da N S om, xoW bd up op tr, lkW D bd L2, alW D e0 (bd 2) hs2 N, rwW D (bd 3) (bd 10) (bd 11) (bd 12) gf2 qf.length, rwW D (bd 4) (bd 13) (bd 14) (bd 15) gb2 qb2.length, alW D e0 (bd 5) ht2 tq.length, dvW db N S2 om2]
def gOk (mo : Nat) (da : Nat → Nat) (hs ht : xAg) (gf gb : xRg) (om : Nat → Int32) (L S : xS) (qb : List xFr) (db : Nat → Nat) (hs2 ht2 : xAg) (gf2 gb2 : xRg) (om2 : Nat → Int32) (L2 S2 : xS) (qb2 : List xFr) (N : Nat) (qf : List xFr) (up op : Int32) (tq : List Nat) (t : Nat) : Prop :=
  aInv L S om N qf qb up op tq t ∧ aInv L2 S2 om2 N qf qb2 up op tq t ∧ aR mo N L L2 S S2 qb qb2 ∧ (alOk hs N da ∧ alOk ht tq.length (fun i => da (tq.getD i 0)) ∧ rwOk qf gf ∧ rwOk qb gb) ∧ (alOk hs2 N db ∧ alOk ht2 tq.length (fun i => db (tq.getD i 0)) ∧ rwOk qf gf2 ∧ rwOk qb2 gb2)
def lTo (G : xGt) (D : va_G) (e0 : Nat) (ad bd : Nat → Nat) (mo t k n pc : Nat) (lv : List (Nat × Value)) : Prop :=
  ∀ (da : Nat → Nat) (hs ht : xAg) (gf gb : xRg) (om : Nat → Int32) (L S : xS) (qb : List xFr) (db : Nat → Nat) (hs2 ht2 : xAg) (gf2 gb2 : xRg) (om2 : Nat → Int32) (L2 S2 : xS) (qb2 : List xFr) (N : Nat) (qf : List xFr) (up op tr : Int32) (tq : List Nat), gOk mo da hs ht gf gb om L S qb db hs2 ht2 gf2 gb2 om2 L2 S2 qb2 N qf up op tq t →
    G pc lv [] (wLd D e0 ad bd da hs ht gf gb om L S qb db hs2 ht2 gf2 gb2 om2 L2 S2 qb2 N qf up op tr tq) k n
theorem rl_crd {m N j : Nat} {L L2 S S2 : xS} {qb qb2 : List xFr} (h : aR m N L L2 S S2 qb qb2) (hj : j < 4) : crd L (ix (nI j)) = crd L2 (ix (nI ((j + m) % 4))) := by
  unfold crd
  rw [ix_nI (by omega), ix_nI (by omega), h.1 2 j hj, h.1 1 j hj]
theorem rl_und {m N d : Nat} {L L2 S S2 : xS} {qb qb2 : List xFr} (h : aR m N L L2 S S2 qb qb2) : (decide (S2 9 d = 2) && decide (S2 14 d = -1)) = (decide (S 9 d = 2) && decide (S 14 d = -1)) := by
  rw [sR_k h.2.1 (k := 9) (by decide), sR_k h.2.1 (k := 14) (by decide)]
theorem rl_len {m N : Nat} {L L2 S S2 : xS} {qb qb2 : List xFr} (h : aR m N L L2 S S2 qb qb2) : qb.length = qb2.length := by
  rw [h.2.2, List.length_map]
