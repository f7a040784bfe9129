/-! THE LAW, from its entry -/
theorem mod_start {I : MI} (h317 : I 317 = fun _ => 0) (h318 : ∀ i, I 318 i = if i = 226 then 4 else 0) : MOD I A0 (fun _ => A0) 0 A0 false (fun _ => 0) 0 := by
  have z : ∀ i, i ≠ 226 → I 318 i = 0 := fun i hi => by rw [h318, if_neg hi]
  refine ⟨⟨⟨z _ (by decide), Nat.zero_le _, fun i hi => absurd hi (Nat.not_lt_zero _), fun i hi => absurd hi (Nat.not_lt_zero _), fun i j hi => absurd hi (Nat.not_lt_zero _)⟩, ⟨z _ (by decide), Nat.zero_le _, fun i hi => absurd hi (Nat.not_lt_zero _)⟩, fun i hi => ?_, ⟨z _ (by decide), Nat.zero_le _, fun i hi => absurd hi (Nat.not_lt_zero _)⟩⟩, ⟨⟨fun i hi => absurd hi (Nat.not_lt_zero _), fun i j _ hj => absurd hj (Nat.not_lt_zero _)⟩, fun r hr => absurd hr (Nat.not_lt_zero _), 4, by decide, by decide, rfl⟩, ⟨by rw [h317]; rfl, by decide, fun j hj => absurd hj (Nat.not_lt_zero _)⟩, ⟨by rw [h317]; rfl, fun q => absurd q (by decide)⟩, by rw [h317]; rfl, by decide, fun i hi => absurd hi (Nat.not_lt_zero _)⟩
  show I 318 (0 + 226 + i) = if i = 0 then 4 else 0
  by_cases e : i = 0
  · rw [e, h318, if_pos rfl, if_pos rfl]
  · rw [if_neg e]; exact z _ (by omega)
set_option maxRecDepth 100000 in
set_option maxHeartbeats 4000000 in
theorem law_start {nm : String} {L : Nat} {xs : Nat → Int32} {J : JT} (hL : OkL nm L xs J) (hL4 : L ≤ 4096) (I : MI) (R : MR) : J 0 0 0 [some (.float 0), none, none, none] [] (gp 0) I R := by
  have hJ := hL.ok
  refine q_new hJ (ci := 10) dL_law_0 (q := 3) rfl (by decide) cl_L_7 nw_X10 (by decide) rfl rfl ?_
  rw [gp_N (n := 0) rfl]
  simp only [gp1]
  refine q_dup hJ dL_law_3 (q := 4) rfl rfl ?_
  refine q_callI hJ dL_law_4 (q := 7) rfl (S_objNew _ _ (zI_self _ _)) imX10_init ln_L_9 rfl rfl rfl (Nat.le_of_ble_eq_true rfl) (by decide) (by decide) rfl rfl (fun rv gv Iv Rv hv => ?_)
  obtain ⟨rfl, rfl, _, _, hO⟩ := hv
  generalize Iv = I1 at *
  generalize Rv = R1 at *
  refine q_astore_n hJ dL_law_7 (q := 8) rfl (show (1 : Nat) < 4 by decide) (by first | rfl | exact isR_rr _) ?_
  refine q_new hJ (ci := 11) dL_law_8 (q := 11) rfl (by decide) cl_L_10 nw_X11 (by decide) rfl rfl ?_
  rw [gp_N (n := 317) rfl]
  simp only [gp1]
  refine q_dup hJ dL_law_11 (q := 12) rfl rfl ?_
  refine q_callI hJ dL_law_12 (q := 15) rfl (S_modNew _ _) imX11_init ln_L_12 rfl rfl rfl (Nat.le_of_ble_eq_true rfl) (by decide) (by decide) rfl rfl (fun rv gv Iv Rv hv => ?_)
  obtain ⟨rfl, rfl, hI2, hR2, hm, h317, h318, _⟩ := hv
  rw [zI_self] at h317
  refine q_astore_n hJ dL_law_15 (q := 16) rfl (show (2 : Nat) < 4 by decide) (by first | rfl | exact isR_rr _) ?_
  refine q_iconst hJ (v := 0) dL_law_16 (q := 17) rfl (by decide) ?_
  refine q_istore_n hJ dL_law_17 (q := 18) rfl (show (3 : Nat) < 4 by decide) ?_
  have hlaw : LawI Iv Rv := ⟨A0, fun _ => A0, 0, A0, false, fun _ => 0, 0, A0, hO.cyb (fun a ha => by rw [hI2 a ha, zI_o _ (by omega)]) (fun a ha => by rw [hR2 a ha, zR_o _ (by omega)]) hm, mod_start h317 h318⟩
  exact law_loop hL hL4 L 0 Iv Rv (by omega) (by omega) hlaw
/-- YOUR PART: from the entry, for every script of at most 4096 ints, the law comes to its end with true ('hflags': the launch's flags, for a law that throws: no stack traces) -/
theorem whole_start {p : Program} {e : Env} {s : State} {m : MethodId} {below : List Frame} {meth : Method} {c : Code} (l : Launch) (hflags : l.flags = flags0) {b L : Nat} {xs : Nat → Int32} (hL : L ≤ 4096) (C0 : lw_At p s m meth c b L xs) : W p l e room_1 s m #[Value.ref b] below meth c s.heap [] 0 0 (lw_Z below #[Value.ref b] s) (entryFrame m ([Value.ref b] : List Value).toArray 4) := by
  obtain ⟨D, kA, hK⟩ := law_Kn C0.2.2.2.2.2.1
  have hL0 : OkL meth.name L xs (wc p l e room_1 s m #[Value.ref b] below meth c s.heap.size b D kA 0 (lw_Z below #[Value.ref b] s) 4) := ⟨p, l, e, s, m, below, meth, c, b, D, kA, rfl, C0, hK, rfl⟩
  have k := law_start hL0 hL (fun _ _ => 0) (fun _ _ => none)
  rw [lg_entry_eq]
  exact k s.heap [] _ rfl (fun j q h => by simp [wl, gp] at h) va_S.rf (LH.entry (n0 := s.heap.size) (sb := b) [.float 0] (fun v hv => by simp at hv; rw [hv]; rfl) (by decide))
set_option maxHeartbeats 4000000 in
theorem lw_walk (l : Launch) (hflags : l.flags = flags0) (b : Addr) (xs : List Int32) : MetFree l x (headSpec (Jvm.Cond.code x code maxLocals ret :: tables_1) room_1) (lw_P b xs) (fun _ _ _ _ _ => True) lw_Q := by
  refine MetFree.of_bodyS (code := code) (maxLocals := maxLocals) (ret := ret) (by decide) ?_ ?_
  · intro args s m h hn
    obtain ⟨meth, c, h1, h2, h3, h4, h5, h6, -, -⟩ := Cond.code_spec hn (atoms_spec (ws := Jvm.Cond.code x code maxLocals ret :: tables_1) h _ List.mem_cons_self)
    exact ⟨meth, c, h1, h2, h3, h4, h5, h6⟩
  · intro p e s m args below meth c s₁ B hml0 hP _
    obtain ⟨rfl, hx, hbd, hgv⟩ := hP
    obtain ⟨scr, harrAt, hlist, hof, hsmall⟩ := hx
    obtain ⟨hcb, hkn, -, -⟩ := State.arrayAt?_spec harrAt
    have hown : s.vm.findClass R_law = some m.cls := findClass_of_methodNamed B.named
    have hts0 : ∀ c ∈ (Jvm.Cond.code x code maxLocals ret :: tables_1), c.before #[Value.ref b] s = true := atoms_spec (ws := Jvm.Cond.code x code maxLocals ret :: tables_1) B.pre
    have hts : ∀ w ∈ lw_tbl, w.before #[Value.ref b] s = true := k2_hts_sels lw_privs (fun w hw => hts0 w (List.mem_cons_of_mem _ hw)) lw_privs_ok
    have hml : c.maxLocals = 4 := B.maxLocals_eq (hts0 _ List.mem_cons_self)
    have X₀ : Stand p l e room_1 s m #[Value.ref b] below meth c s₁ [] 0 0 := Stand.of_body B
    have hh0 : s₁.heap = s.heap := by rw [B.state]; rfl
    have hsz : scr.slots.size = xs.length := by rw [← Array.length_toList, hlist, List.length_map]
    have hval : ∀ j : Nat, j < xs.length → scr.slots[j]? = some (.int (xs.getD j 0)) := fun j hj => by
      rw [← Array.getElem?_toList, hlist]
      simp [hj]
    have hbl : b < s.heap.size := (Array.getElem?_eq_some_iff.mp hcb).1
    have hX : va_X b xs.length (fun j => xs.getD j 0) s s.heap := ⟨scr, hcb, hof, hkn, hsz, hval⟩
    have K : W p l e room_1 s m #[Value.ref b] below meth c s₁.heap [] 0 0 (lw_Z below #[Value.ref b] s) (entryFrame m ([Value.ref b] : List Value).toArray 4) := by
      rw [hh0]
      exact whole_start l hflags hbd ⟨B.exec, B.bytes, B.returns, hml, hown, hts, hX, hbl, B.notSynchronized, hgv⟩
    obtain ⟨t, a1, o, b1, b2, b3⟩ := K s₁ rfl X₀
    exact ⟨t, o, a1, b1, b2, b3⟩
theorem lw_pre_spec {args : Array Value} {s : State} (h : (Jvm.Cond.and given_1 narrow_1).before args s = true) (hr : rest_1_c.before args s = true) : ∃ (b : Addr) (xs : List Int32), lw_P b xs args s := by
  have hs := flat_of_before _ h
  have hq := flat_of_before _ hr
  have hc : (Cond.count 1).before args s = true := hs _ (by decide +kernel)
  have harr : (Cond.arrayOf (.arg 0) .int).before args s = true := hs _ (by decide +kernel)
  have hle : (Cond.le (.length (.arg 0)) (.int 4096)).before args s = true := hs _ (by decide +kernel)
  have hlen : (Cond.isInt (.length (.arg 0))).before args s = true := hq _ (by decide +kernel)
  have hall : (Cond.all (.arg 0) (.isInt (.elem (.arg 0) (.index 0)))).before args s = true := hq _ (by decide +kernel)
  obtain ⟨b, xs, hb, hx⟩ := State.ints_of_pre rfl harr hlen hall
  have hsm : xs.length < 2 ^ 31 := hx.choose_spec.2.2.2
  have hev : (Term.length (.arg 0)).eval args s none [] s = some (.int xs.length.toInt32) := hx.length_eval hb
  have hv := Cond.le_ints hev (show (Term.int 4096).eval args s none [] s = some (.int 4096) from rfl)
  have hd : xs.length.toInt32 ≤ 4096 := by
    simpa [Cond.before, Cond.holds, hv] using hle
  have hN : xs.length ≤ 4096 := (Int32.ofNat_le_ofNat hsm (by decide)).mp (show Int32.ofNat xs.length ≤ Int32.ofNat 4096 from hd)
  exact ⟨b, xs, Cond.one_arg hc (show args[0]? = some (.ref b) from hb), hx, hN, h⟩
theorem lw_comes (l : Launch) (hflags : l.flags = flags0) : Comes l x (Jvm.Cond.code x code maxLocals ret :: tables_1) room_1 (fun tb e args s => Calls_1 tb e args s ∧ rest_1 tb e args s ∧ Pre_1 tb e args s)
    (fun _ _ args s o t => lw_Q args s o t) := by
  intro p e ha hc hk s m args below hf hfit hheap happ hpre
  obtain ⟨b, xs, hP⟩ := lw_pre_spec hpre.2.2 hpre.2.1
  obtain ⟨k, o, h1, h2, h3, hQ⟩ := lw_walk l hflags b xs p e ha hc hk s m args below hf ((Spec.applies_iff_loose hf).mp happ).1 hP trivial
  exact ⟨k, o, h1, h2, h3, hQ⟩
theorem lw_frame {s t : State} {o : Outcome} {args : Array Value} (h : Framed s o t [] 600000 7302250) :
    Framed s o t (fieldLocs frame_1_writes args s ++ arrayLocs frame_1_arrays args s ++ staticLocs frame_1_statics s) 600000 7302250 := h
theorem lw_limb (L : Cond) (hL : ∀ (args : Array Value) (s t : State), L.after args s (.returned (some (.int 1))) t = true) :
    ArmFor flags0 classFile x code maxLocals ret World_1 tables_1 room_1 Calls_1 rest_1 Pre_1
      (fun tb e a s o t => postC L tb e a s o t ∧ Framed s o t (fieldLocs frame_1_writes a s ++ arrayLocs frame_1_arrays a s ++ staticLocs frame_1_statics s) 600000 7302250) := by
  intro l hflags _ _ p e ha hc hk s m args below hf hfit hheap happ hpre
  obtain ⟨k, o, h1, h2, h3, rfl, hF⟩ := lw_comes l hflags p e ha hc hk s m args below hf hfit hheap happ hpre
  exact ⟨k, _, h1, h2, h3, hL args s _, lw_frame hF⟩
theorem i_vc : Claimed_1_1 ∧ Claimed_1_2 := ⟨lw_limb limb_1_1 (fun args s t => by simp [limb_1_1, Cond.after, Cond.holds, Cond.value]), lw_limb limb_1_2 (fun args s t => Cond.after_iff.mpr (by
  first | (rw [show limb_1_2 = Cond.eq .result (.int 1) from rfl, Cond.eq_ints (x := 1) (y := 1) rfl rfl]; simp; done) | (simp [limb_1_2, Cond.value, Term.eval]; done)))⟩

