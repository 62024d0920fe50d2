/-! the start: what the tables and the Statement say of it -/
def xD1 (c0 c1 c2 c3 c4 cI cK cO : ClassId) : Nat → ClassId
  | 0 => c0
  | 1 => c1
  | 2 => c2
  | 3 => c3
  | 4 => c4
  | 10 => cI
  | 13 => cK
  | _ => cO
def xD2 (i0 i1 i2 i3 i4 : Nat → Nat) (mi : Nat) : Nat → Nat → Nat
  | 0 => i0
  | 1 => i1
  | 2 => i2
  | 3 => i3
  | 4 => i4
  | _ => fun _ => mi
theorem xT_tbl {w : Cond} (h : w ∈ xT) : w ∈ lw_tbl := (List.mem_filter.mp h).1
set_option maxRecDepth 100000 in
set_option maxHeartbeats 4000000 in
theorem xZ_start {s : State} {b : Nat} (hts : ∀ w ∈ lw_tbl, w.before #[Value.ref b] s = true) (hgv : (Jvm.Cond.and given_1 narrow_1).before #[Value.ref b] s = true) : ∃ (D : va_G) (e0 : Nat), xZ D e0 (fun q => s.heap.size ≤ q) s s.heap := by
  have hs := flat_of_before _ hgv
  have hA : ∀ a : Nat, a < s.heap.size → ¬ (fun q => s.heap.size ≤ q) a := fun a h => Nat.not_le.mpr h
  obtain ⟨c0, i0, k0⟩ := u_known hts (fun w hw => xT_tbl (xcl_A.2.1 w hw)) (hts (.instantiable "java/util/ArrayList" 3) (List.mem_append_right _ (List.mem_of_getElem? (i := 31) (by decide +kernel))))
  obtain ⟨c1, i1, k1⟩ := u_known hts (fun w hw => xT_tbl (xcl_D.2.1 w hw)) (hts (.instantiable "CreditLinks$Delivery" 12) (List.mem_append_right _ (List.mem_of_getElem? (i := 321) (by decide +kernel))))
  obtain ⟨c2, i2, k2⟩ := u_known hts (fun w hw => xT_tbl (xcl_L.2.1 w hw)) (hts (.instantiable "CreditLinks$Link" 4) (List.mem_append_right _ (List.mem_of_getElem? (i := 79) (by decide +kernel))))
  obtain ⟨c3, i3, k3⟩ := u_known hts (fun w hw => xT_tbl (xcl_R.2.1 w hw)) (hts (.instantiable "CreditLinks$Row" 5) (List.mem_append_right _ (List.mem_of_getElem? (i := 57) (by decide +kernel))))
  obtain ⟨c4, i4, k4⟩ := u_known hts (fun w hw => xT_tbl (xcl_X.2.1 w hw)) (hts (.instantiable "CreditLinks" 8) (List.mem_append_right _ (List.mem_of_getElem? (i := 21) (by decide +kernel))))
  obtain ⟨cI, kI, pI, aI, bI, dI⟩ := Cond.arrayClass_spec (hts (.arrayClass .int) (List.mem_append_right _ (List.mem_of_getElem? (i := 78) (by decide +kernel))))
  obtain ⟨pK, cK, kK, aK, bK, dK, eK, fK⟩ := Cond.arrayOver_spec (hts (.arrayOver (.object "CreditLinks$Link")) (List.mem_append_right _ (List.mem_of_getElem? (i := 29) (by decide +kernel))))
  obtain ⟨pO, cO, kO, aO, bO, dO, eO, fO⟩ := Cond.arrayOver_spec (hts (.arrayOver (.object "java/lang/Object")) (List.mem_append_right _ (List.mem_of_getElem? (i := 417) (by decide +kernel))))
  obtain ⟨mi, hmi⟩ := va_Mi.of (hs (.isRef (.mirror "[Ljava/lang/Object;")) (by decide +kernel))
  obtain ⟨e0, he0, hT0⟩ := va_Tof (tm := (.static "java/util/ArrayList" "DEFAULTCAPACITY_EMPTY_ELEMENTDATA" "[Ljava/lang/Object;")) (ty := .object "java/lang/Object") (N := 0) (f := fun _ => .null) (A := fun q => s.heap.size ≤ q) (by decide) (hs (.arrayOf (.static "java/util/ArrayList" "DEFAULTCAPACITY_EMPTY_ELEMENTDATA" "[Ljava/lang/Object;") (.object "java/lang/Object")) (by decide +kernel)) (va_eqt (hs (.eq (.length (.static "java/util/ArrayList" "DEFAULTCAPACITY_EMPTY_ELEMENTDATA" "[Ljava/lang/Object;")) (.int 0)) (by decide +kernel))) (fun j hj => absurd hj (Nat.not_lt_zero j)) hA
  have hcur : ∃ cur, s.vm.findClass "CreditLinks" = some cur := by
    obtain ⟨cur, kk, h1, -⟩ := Cond.instantiable_spec (hts (.instantiable "CreditLinks" 8) (List.mem_append_right _ (List.mem_of_getElem? (i := 21) (by decide +kernel))))
    exact ⟨cur, h1⟩
  obtain ⟨cur, hcur⟩ := hcur
  refine ⟨(xD1 c0 c1 c2 c3 c4 cI cK cO, xD2 i0 i1 i2 i3 i4 mi), e0, ⟨fun c q hq => ?_, fun k q hk => ?_⟩, ⟨fun q hq => ?_, fun q hq => ?_, fun q hq => ?_, ⟨va_AO.of (hts _ (List.mem_append_right _ (List.mem_of_getElem? (i := 29) (by decide +kernel)))), va_AO.of (hts _ (List.mem_append_right _ (List.mem_of_getElem? (i := 417) (by decide +kernel))))⟩, fun q hq => ?_, fun q hq => ?_, hmi⟩, ?_, hT0, ?_, ?_⟩
  · match c, hq with
    | 0, hq => cases hq; exact k0
    | 1, hq => cases hq; exact k1
    | 2, hq => cases hq; exact k2
    | 3, hq => cases hq; exact k3
    | 4, hq => cases hq; exact k4
    | c + 5, hq => simp [vwCl] at hq
  · match k, hk with
    | 0, hk => cases hk; exact ⟨fun n z => ⟨fun k h => (by cases h), kI, bI, pI, dI⟩, aI⟩
    | 1, hk => cases hk; exact ⟨fun n z => ⟨fun k h => (by cases h), kI, bI, pI, dI⟩, aI⟩
    | 2, hk => cases hk; exact ⟨fun n z => ⟨fun k h => (by cases h), kI, bI, pI, dI⟩, aI⟩
    | 3, hk => cases hk; exact ⟨fun n z => ⟨fun k h => (by cases h), kK, dK, pK, eK⟩, kK, pK, dK, eK, aK, fK⟩
    | 4, hk => cases hk; exact ⟨fun n z => ⟨fun k h => (by cases h), kO, dO, pO, eO⟩, kO, pO, dO, eO, aO, fO⟩
    | k + 5, hk => simp [xTY] at hk
  · have h : ∀ q ∈ xND, Cond.declares q ∈ lw_tbl := by decide +kernel
    exact va_Nw.of rfl (hts _ (h q hq))
  · have h : ∀ q ∈ xNC, Cond.castable q.1 q.2 ∈ lw_tbl := by decide +kernel
    exact va_Nw.of rfl (hts _ (h q hq))
  · have h : ∀ q ∈ xNM, Cond.methodLinkNest q.1 q.2.1 q.2.2.1 q.2.2.2 ∈ lw_tbl := by decide +kernel
    exact va_Nw.of rfl (hts _ (h q hq))
  · have h : ∀ q ∈ xNS, Cond.stringRef q.1 q.2.1 q.2.2 ∈ lw_tbl := by decide +kernel
    have h2 : ∀ q ∈ xNS, q.1 = "CreditLinks" := by decide +kernel
    have hw := hts _ (h q hq)
    obtain ⟨kk, cf, i, a, -, -, -, -, -, hev⟩ := Cond.stringRef_spec (by rw [h2 q hq]; exact hcur) hw
    exact ⟨a, vk_R.of hw hev⟩
  · have h : ∀ q ∈ xNN, Cond.not (.castable q.1 q.2) ∈ flatC (Jvm.Cond.and given_1 narrow_1) := by decide +kernel
    exact va_Nc.of (hs _ (h q hq))
  · exact va_Zref (hts (.laysStatic "java/util/ArrayList" "DEFAULTCAPACITY_EMPTY_ELEMENTDATA" "[Ljava/lang/Object;") (List.mem_append_right _ (List.mem_of_getElem? (i := 43) (by decide +kernel)))) (hts (.initialized "java/util/ArrayList") (List.mem_append_right _ (List.mem_of_getElem? (i := 4) (by decide +kernel)))) he0 hA
  · exact vx_Zqof (hts (.laysStatic "java/lang/Throwable" "UNASSIGNED_STACK" "[Ljava/lang/StackTraceElement;") (List.mem_append_right _ (List.mem_of_getElem? (i := 217) (by decide +kernel)))) (hts (.initialized "java/lang/Throwable") (List.mem_append_right _ (List.mem_of_getElem? (i := 7) (by decide +kernel)))) (hs (.isRef (.static "java/lang/Throwable" "UNASSIGNED_STACK" "[Ljava/lang/StackTraceElement;")) (by decide +kernel)) hA
  · exact vx_Zqof (hts (.laysStatic "java/lang/Throwable" "SUPPRESSED_SENTINEL" "Ljava/util/List;") (List.mem_append_right _ (List.mem_of_getElem? (i := 219) (by decide +kernel)))) (hts (.initialized "java/lang/Throwable") (List.mem_append_right _ (List.mem_of_getElem? (i := 7) (by decide +kernel)))) (hs (.isRef (.static "java/lang/Throwable" "SUPPRESSED_SENTINEL" "Ljava/util/List;")) (by decide +kernel)) hA
