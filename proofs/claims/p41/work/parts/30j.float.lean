/-! METHODS OF A CLASS THAT HAS ROWS OF ITS OWN -/
section FXB
variable {l : Launch}
theorem fx_ofW {y : MethodName} {ws ws' : List Cond} {rm : Room} {Pc : Array Value → State → Prop} {Qc : Array Value → State → Outcome → State → Prop} {XC : String → State → State → Prop} {mc ms : Nat} {free : Addr → Prop} {cc : ByteArray} {maxL : Nat} {ret : Option FieldType}
    (hy : plainFor y = true) (hw : ws = Cond.code y cc maxL ret :: ws')
    (body : ∀ p e s m args below meth c s₁, BodyLoose p l y (headSpec ws rm) cc maxL ret e s m args below meth c s₁ → c.maxLocals = maxL → (∀ x ∈ c.exceptionTable.toList, False) → Pc args s →
      W p l e (headSpec ws rm).room s m args below meth c s.heap [] 0 0 (vx_MQ below Qc XC args s mc ms free) (entryFrame m args maxL)) : vx_Met l y ws rm Pc Qc XC mc ms free := by
  refine MetFree.of_bodySF (code := cc) (maxLocals := maxL) (ret := ret) hy ?_ ?_
  · intro args s m h hn
    obtain ⟨meth, c, h1, h2, h3, h4, h5, h6, -, -⟩ := Cond.code_spec hn (atoms_spec (ws := ws) h _ (by rw [hw]; exact List.mem_cons_self))
    exact ⟨meth, c, h1, h2, h3, h4, h5, h6⟩
  · intro p e s m args below meth c s₁ B hml hP _
    have hh0 : s₁.heap = s.heap := by rw [B.state]; rfl
    have ht : ∀ x ∈ c.exceptionTable.toList, False := by
      obtain ⟨meth9, c9, h1, h2, -, -, -, -, h7, -⟩ := Cond.code_spec B.named (atoms_spec (ws := ws) B.pre _ (by rw [hw]; exact List.mem_cons_self))
      cases Option.some.inj (h1.symm.trans B.method)
      cases Option.some.inj (h2.symm.trans (Stand.of_body B).code)
      intro x hx
      rw [Array.isEmpty_iff.mp h7] at hx
      cases hx
    obtain ⟨t, a1, o, b1, b2, b3⟩ := body p e s m args below meth c s₁ B hml ht hP s₁ hh0 (Stand.of_body B)
    exact ⟨t, o, a1, b1, b2, b3⟩
end FXB
theorem CT.ofF {G : GG} {l : Launch} {y : MethodName} {bytes : ByteArray} {maxL : Nat} {ret : Option FieldType} {rm : Room} {av : List Value} {m : Mm} {Qr : Option Value → Mm → Prop} {Qx : String → Mm → Prop} (own : String) (L : List (Nat × Value))
    (hfl : l.stackTraces = false) (hy : plainFor y = true) (hown : y.cls = own) (hL : lv_args 0 av = L) (hlen : (lg_sl av).length ≤ maxL)
    (body : ∀ E : EE, OK0 G E own bytes → EndOK G E rm ret Qr Qx → (e_c E).maxLocals = maxL → (e_l E) = l → (∀ x ∈ (e_c E).exceptionTable.toList, False) → WA G E 0 0 0 L [] m) : CT G l y bytes maxL ret rm av m Qr Qx := by
  refine fx_ofW (cc := bytes) (maxL := maxL) (ret := ret) hy rfl ?_
  intro p e s m0 args below meth c s₁ B hml ht hP
  obtain ⟨rfl, hSF, hHW⟩ := hP
  have hts := atoms_spec (ws := Cond.code y bytes maxL ret :: BIG) B.pre
  have hownc : s.vm.findClass own = some m0.cls := by rw [← hown]; exact findClass_of_methodNamed B.named
  have hl0 := lv_entry (av.map (cv (g_ad G))) (n := maxL) (by rw [sl_len]; exact hlen)
  rw [lg_entry_eq]
  have hl1 : lv_has (lg_sl (List.map (cv (g_ad G)) av) ++ List.replicate (maxL - (lg_sl (List.map (cv (g_ad G)) av)).length) Slot.unset).toArray maxL (L.map (cvp G)) := by
    have e : L.map (cvp G) = lv_args 0 (av.map (cv (g_ad G))) := by rw [← hL, args_cv]; rfl
    rw [e]; exact hl0
  obtain ⟨E, hE⟩ : ∃ E : EE, E = (p, l, e, (headSpec (Cond.code y bytes maxL ret :: BIG) rm).room, s, m0, (av.map (cv (g_ad G))).toArray, below, meth, c, vx_MQ below (qR G Qr) (qX G Qx) (av.map (cv (g_ad G))).toArray s rm.cells rm.slots (g_A G)) := ⟨_, rfl⟩
  have k := body E (by subst hE; exact ⟨B.exec, B.bytes, hownc, fun w hw => hts w (List.mem_cons_of_mem _ hw), hSF, hfl⟩) (by subst hE; exact ⟨rfl, B.notSynchronized, B.returns, rfl⟩) (by subst hE; exact hml) (by subst hE; rfl) (by subst hE; exact ht)
  have hml' : (e_c E).maxLocals = maxL := by subst hE; exact hml
  have k2 := k s.heap [] _ hHW (by subst hE; exact va_S.rf) (by rw [hml']; exact hl1)
  subst hE
  exact k2
theorem pf_1 : plainFor yJxf58ca_floatToIntBits_5c35a = true := by decide +kernel
theorem pf_2 : plainFor yJxf58ca_isNaN_12338 = true := by decide +kernel
theorem ls_Jf_59 : LinkS RJxf58ca 59 yJxf58ca_isNaN_12338 cJxf58ca_isNaN_12338 1 (some .boolean) 1 := ⟨List.forall_mem_cons.mpr ⟨tb_in 823 (by decide +kernel) (by decide +kernel), List.forall_mem_cons.mpr ⟨tb_in 824 (by decide +kernel) (by decide +kernel), List.forall_mem_cons.mpr ⟨tb_in 25 (by decide +kernel) (by decide +kernel), fun _ h => absurd h List.not_mem_nil⟩⟩⟩, tb_in 825 (by decide +kernel) (by decide +kernel), by decide +kernel⟩
theorem lj_L_44 : LinkJ RL 44 yJxf58ca_floatToIntBits_5c35a cJxf58ca_floatToIntBits_5c35a 1 (some .int) 1 := ⟨⟨tb_in 820 (by decide +kernel) (by decide +kernel), tb_in 821 (by decide +kernel) (by decide +kernel), tb_in 25 (by decide +kernel) (by decide +kernel)⟩, tb_in 822 (by decide +kernel) (by decide +kernel), by decide +kernel⟩
theorem fcmp_sl {x : UInt32} {op : CmpOp} (h : FP.Core.val32 x ≠ .nan) : Op.cmpValue (FP.fcmp x x) op = Int32.ofInt 0 := by
  rw [show FP.fcmp x x = some .eq from FP.Core.fcmp_self h]
  rfl
set_option maxHeartbeats 4000000 in
set_option maxRecDepth 100000 in
theorem c_Jf_isNaN {G : GG} {l : Launch} (hfl : l.stackTraces = false) {P9 : Prop} (hG : P9) {m : Mm} {x : UInt32} (hx : FP.Core.val32 x ≠ .nan) : CT G l yJxf58ca_isNaN_12338 cJxf58ca_isNaN_12338 1 (some .boolean) (RM 0 0 0) [.float x] m (fun r' m' => r' = some (vI 0) ∧ m' = m) (fun _ _ => False) := by
  refine CT.ofF RJxf58ca [(0, .float x)] hfl (by decide +kernel) rfl rfl (Nat.le_of_ble_eq_true rfl) ?_
  intro E ok en hml hEl htab
  have hR : e_R E = RM 0 0 0 := en.2.2.2
  have hn0 : 0 < (e_c E).maxLocals := by rw [hml]; decide
  refine ga_fload_n ok 0 rfl rfl dJxf58ca_isNaN_12338_0 ?_
  refine ga_fload_n ok 0 rfl rfl dJxf58ca_isNaN_12338_1 ?_
  refine ga_fcmp ok dJxf58ca_isNaN_12338_2 (fcmp_sl hx) ?_
  refine ga_if_eq ok 10 (by decide) (by omega) dJxf58ca_isNaN_12338_3 (fun c_3 => ?_) (fun c_3 => ?_)
  · refine ga_iconst ok dJxf58ca_isNaN_12338_10 ?_
    exact ga_ireturn ok en rfl (by decide) (by decide) (by decide) dJxf58ca_isNaN_12338_11 ⟨rfl, rfl⟩
  · exact absurd rfl c_3
set_option maxHeartbeats 4000000 in
set_option maxRecDepth 100000 in
theorem c_Jf_bits {G : GG} {l : Launch} (hfl : l.stackTraces = false) {P9 : Prop} (hG : P9) {m : Mm} {x : UInt32} (hx : FP.Core.val32 x ≠ .nan) : CT G l yJxf58ca_floatToIntBits_5c35a cJxf58ca_floatToIntBits_5c35a 1 (some .int) (RM 1 0 0) [.float x] m (fun r' m' => r' = some (vI (fword x)) ∧ m' = m) (fun _ _ => False) := by
  refine CT.ofF RJxf58ca [(0, .float x)] hfl (by decide +kernel) rfl rfl (Nat.le_of_ble_eq_true rfl) ?_
  intro E ok en hml hEl htab
  have hR : e_R E = RM 1 0 0 := en.2.2.2
  have hn0 : 0 < (e_c E).maxLocals := by rw [hml]; decide
  refine ga_fload_n ok 0 rfl rfl dJxf58ca_floatToIntBits_5c35a_0 ?_
  refine gd_S_1 ok ls_Jf_59 (c_Jf_isNaN ok.fl hG hx) (by rw [hR]; exact ⟨by decide, by decide, by decide, by decide⟩) (Nat.le_of_ble_eq_true rfl) dJxf58ca_floatToIntBits_5c35a_1 ?_
  refine ga_if_ne ok 12 (by decide) (by omega) dJxf58ca_floatToIntBits_5c35a_4 (fun c_4 => ?_) (fun c_4 => ?_)
  · exact absurd rfl c_4
  · refine ga_fload_n ok 0 rfl rfl dJxf58ca_floatToIntBits_5c35a_7 ?_
    refine ga_rawBits ok lf_Jf_74 (by rw [hR]; exact (by decide)) (by rw [hR]; exact Nat.le_of_ble_eq_true rfl) (z := fword x) (by unfold fword; rw [Int32.ofInt_toInt]) dJxf58ca_floatToIntBits_5c35a_8 ?_
    exact ga_ireturn ok en rfl rfl (by decide) (by decide) dJxf58ca_floatToIntBits_5c35a_11 ⟨rfl, rfl⟩
