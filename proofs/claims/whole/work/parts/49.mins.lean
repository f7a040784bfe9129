/-! THE MODEL: insert, update, delete, and what would be -/
theorem insF_bad {A : AS} {k z o t : Int32} (h : inR k 0 99 = 0 ∨ inR z (-999) 999 = 0 ∨ inR o (-999) 999 = 0 ∨ inR t (-999) 999 = 0) : some (Value.int (-1002)) = some (Value.int (insF A k z o t)) := by
  congr 2
  unfold insF
  by_cases c1 : inR k 0 99 = 0
  · rw [if_pos c1]
  · rw [if_neg c1]
    by_cases c2 : inR z (-999) 999 = 0
    · rw [if_pos c2]
    · rw [if_neg c2]
      by_cases c3 : inR o (-999) 999 = 0
      · rw [if_pos c3]
      · rw [if_neg c3, if_pos]
        rcases h with q | q | q | q
        · exact absurd q c1
        · exact absurd q c2
        · exact absurd q c3
        · exact q
theorem insF_wn {A : AS} {k z o t : Int32} (c1 : ¬ inR k 0 99 = 0) (c2 : ¬ inR z (-999) 999 = 0) (c3 : ¬ inR o (-999) 999 = 0) (c4 : ¬ inR t (-999) 999 = 0) : some (Value.int (wnI A k)) = some (Value.int (insF A k z o t)) := by
  congr 2
  unfold insF
  rw [if_neg c1, if_neg c2, if_neg c3, if_neg c4]
  rfl
theorem updF_bad {A : AS} {k f v : Int32} {i : Nat} (hf : fK A k = some i) (h : inR f 0 2 = 0 ∨ inR v (-999) 999 = 0) : some (Value.int (-1002)) = some (Value.int (updF A k f v)) := by
  congr 2
  unfold updF
  rw [hf]
  simp only
  by_cases c1 : inR f 0 2 = 0
  · rw [if_pos c1]
  · rw [if_neg c1, if_pos (h.resolve_left c1)]
theorem updF_wn {A : AS} {k v : Int32} {i f : Nat} (hf : fK A k = some i) (h3 : f < 3) (c1 : ¬ inR (nI f) 0 2 = 0) (c2 : ¬ inR v (-999) 999 = 0) : some (Value.int (wnU A k f v)) = some (Value.int (updF A k (nI f) v)) := by
  congr 2
  unfold updF wnU
  rw [hf]
  simp only
  rw [if_neg c1, if_neg c2, rowF_n h3]
theorem updF_none {A : AS} {k f v : Int32} (hf : fK A k = none) : some (Value.int (-1001)) = some (Value.int (updF A k f v)) := by
  congr 2
  unfold updF
  rw [hf]
theorem insF_0 {A : AS} {k z o t : Int32} (h : insF A k z o t = 0) : cantA A k = 1 := by
  unfold insF at h
  split at h
  · exact absurd h (by decide)
  next c1 =>
    split at h
    · exact absurd h (by decide)
    · split at h
      · exact absurd h (by decide)
      · split at h
        · exact absurd h (by decide)
        · split at h
          · exact absurd h (by decide)
          next c2 =>
            split at h
            next c3 =>
              unfold cantA
              rw [if_neg c1, if_neg c2, if_pos c3]
            · exact absurd h (by decide)
theorem updF_0 {A : AS} {k f v : Int32} (h : updF A k f v = 0) : prUp A k f v = some (updI A k f v) ∧ ∃ f', f' < 3 ∧ f = nI f' := by
  unfold updF at h
  rcases hf : fK A k with _ | i
  · rw [hf] at h; exact absurd (show (-1001 : Int32) = 0 from h) (by decide)
  · rw [hf] at h
    simp only at h
    split at h
    · exact absurd h (by decide)
    next c1 =>
      split at h
      · exact absurd h (by decide)
      · split at h
        · exact absurd h (by decide)
        next c3 =>
          unfold prUp updI
          rw [hf]
          simp only
          rw [if_neg c3]
          exact ⟨rfl, n_02 (inR_ne c1)⟩
theorem dltF_0 {A : AS} {k : Int32} (h : dltF A k = 0) : prDel A k = some (dltI A k) := by
  unfold dltF at h
  unfold prDel dltI
  rcases hf : fK A k with _ | i
  · rw [hf] at h; exact absurd h (by decide)
  · rfl
theorem dltF_s {A : AS} {k : Int32} {i : Nat} (hf : fK A k = some i) : dltF A k = 0 := by unfold dltF; rw [hf]; rfl
theorem dltF_n {A : AS} {k : Int32} (hf : fK A k = none) : dltF A k = -1001 := by unfold dltF; rw [hf]; rfl
set_option maxRecDepth 100000 in
set_option maxHeartbeats 400000 in
theorem M_wniHere (k z o t : Int32) (A : AS) (I : MI) (R : MR) (hFR : FR R) (hR : RowQ (I 318) 0 (aK A) (aN A)) (ok : okK (aK A) (aN A)) : Sp 2 0 0 mX11_whyNotInsertHere [.ref 317, .int k, .int z, .int o, .int t] g0 I R (Mv (insF A k z o t) I R) := by
  have hm0 := hFR.2.2.2.2.2.1
  have hm1 := hFR.2.2.2.2.2.2.1
  have hm3 := hFR.2.2.2.2.2.2.2.1
  have hm5 := hFR.2.2.2.2.2.2.2.2.1
  have hm7 := hFR.2.2.2.2.2.2.2.2.2
  refine Sp.on (by decide +kernel) rfl rfl (fun J hM => ?_)
  have hJ := hM.ok
  refine q_iload_n hJ dX11_whyNotInsertHere_0 (q := 1) rfl rfl ?_
  refine q_callS hJ dX11_whyNotInsertHere_1 (q := 4) rfl (M_isKey k I R) imX11_isKey ln_X11_57 rfl rfl rfl (Nat.le_of_ble_eq_true rfl) (by decide) (by decide) rfl rfl (fun rv gv Iv Rv hv => ?_)
  obtain ⟨rfl, rfl, rfl, rfl⟩ := hv
  refine q_if_eq hJ (tgt := 33) dX11_whyNotInsertHere_4 (q := 7) rfl (by decide) (fun c1 => ?_) (fun c1 => ?_)
  · refine q_iconst hJ (v := 0) dX11_whyNotInsertHere_33 (q := 34) rfl (by decide) ?_
    refine q_istore hJ dX11_whyNotInsertHere_34 (q := 36) rfl (by decide) ?_
    refine q_iload hJ dX11_whyNotInsertHere_36 (q := 38) rfl rfl ?_
    refine q_if_eq hJ (tgt := 50) dX11_whyNotInsertHere_38 (q := 41) rfl (by decide) (fun c5 => ?_) (fun c5 => ?_)
    · refine q_sipush hJ (v := (-1002)) dX11_whyNotInsertHere_50 (q := 53) rfl (by decide) ?_
      refine q_iret hM dX11_whyNotInsertHere_53 rfl rfl ?_
      first
        | exact absurd c5 (by decide)
        | exact absurd rfl c5
        | exact ⟨insF_bad (Or.inl c1), rfl, rfl, rfl⟩
        | exact ⟨insF_bad (Or.inr (Or.inl c2)), rfl, rfl, rfl⟩
        | exact ⟨insF_bad (Or.inr (Or.inr (Or.inl c3))), rfl, rfl, rfl⟩
        | exact ⟨insF_bad (Or.inr (Or.inr (Or.inr c4))), rfl, rfl, rfl⟩
        | exact ⟨insF_wn c1 c2 c3 c4, rfl, rfl, rfl⟩
    · refine q_aload_n hJ dX11_whyNotInsertHere_41 (q := 42) rfl rfl (by first | rfl | exact isR_rr _) ?_
      refine q_iconst hJ (v := 0) dX11_whyNotInsertHere_42 (q := 43) rfl (by decide) ?_
      refine q_iload_n hJ dX11_whyNotInsertHere_43 (q := 44) rfl rfl ?_
      refine q_callV hJ dX11_whyNotInsertHere_44 (q := 47) rfl (M_whyNotInsert 0 (by decide) k A I R hFR hR ok) imX11_whyNotInsert ln_X11_129 (by first | exact ka317 | exact ka318 | exact ka319 | exact ka320 | exact ka321 | exact ka322) (by decide) rfl rfl rfl rfl (Nat.le_of_ble_eq_true rfl) (by decide) (by decide) rfl rfl (fun rv gv Iv Rv hv => ?_)
      obtain ⟨rfl, rfl, rfl, rfl⟩ := hv
      refine q_goto hJ (tgt := 53) dX11_whyNotInsertHere_47 (by decide) ?_
      refine q_iret hM dX11_whyNotInsertHere_53 rfl rfl ?_
      first
        | exact absurd c5 (by decide)
        | exact absurd rfl c5
        | exact ⟨insF_bad (Or.inl c1), rfl, rfl, rfl⟩
        | exact ⟨insF_bad (Or.inr (Or.inl c2)), rfl, rfl, rfl⟩
        | exact ⟨insF_bad (Or.inr (Or.inr (Or.inl c3))), rfl, rfl, rfl⟩
        | exact ⟨insF_bad (Or.inr (Or.inr (Or.inr c4))), rfl, rfl, rfl⟩
        | exact ⟨insF_wn c1 c2 c3 c4, rfl, rfl, rfl⟩
  · refine q_iload_n hJ dX11_whyNotInsertHere_7 (q := 8) rfl rfl ?_
    refine q_callS hJ dX11_whyNotInsertHere_8 (q := 11) rfl (M_isValue z I R) imX11_isValue ln_X11_126 rfl rfl rfl (Nat.le_of_ble_eq_true rfl) (by decide) (by decide) rfl rfl (fun rv gv Iv Rv hv => ?_)
    obtain ⟨rfl, rfl, rfl, rfl⟩ := hv
    refine q_if_eq hJ (tgt := 33) dX11_whyNotInsertHere_11 (q := 14) rfl (by decide) (fun c2 => ?_) (fun c2 => ?_)
    · refine q_iconst hJ (v := 0) dX11_whyNotInsertHere_33 (q := 34) rfl (by decide) ?_
      refine q_istore hJ dX11_whyNotInsertHere_34 (q := 36) rfl (by decide) ?_
      refine q_iload hJ dX11_whyNotInsertHere_36 (q := 38) rfl rfl ?_
      refine q_if_eq hJ (tgt := 50) dX11_whyNotInsertHere_38 (q := 41) rfl (by decide) (fun c5 => ?_) (fun c5 => ?_)
      · refine q_sipush hJ (v := (-1002)) dX11_whyNotInsertHere_50 (q := 53) rfl (by decide) ?_
        refine q_iret hM dX11_whyNotInsertHere_53 rfl rfl ?_
        first
          | exact absurd c5 (by decide)
          | exact absurd rfl c5
          | exact ⟨insF_bad (Or.inl c1), rfl, rfl, rfl⟩
          | exact ⟨insF_bad (Or.inr (Or.inl c2)), rfl, rfl, rfl⟩
          | exact ⟨insF_bad (Or.inr (Or.inr (Or.inl c3))), rfl, rfl, rfl⟩
          | exact ⟨insF_bad (Or.inr (Or.inr (Or.inr c4))), rfl, rfl, rfl⟩
          | exact ⟨insF_wn c1 c2 c3 c4, rfl, rfl, rfl⟩
      · refine q_aload_n hJ dX11_whyNotInsertHere_41 (q := 42) rfl rfl (by first | rfl | exact isR_rr _) ?_
        refine q_iconst hJ (v := 0) dX11_whyNotInsertHere_42 (q := 43) rfl (by decide) ?_
        refine q_iload_n hJ dX11_whyNotInsertHere_43 (q := 44) rfl rfl ?_
        refine q_callV hJ dX11_whyNotInsertHere_44 (q := 47) rfl (M_whyNotInsert 0 (by decide) k A I R hFR hR ok) imX11_whyNotInsert ln_X11_129 (by first | exact ka317 | exact ka318 | exact ka319 | exact ka320 | exact ka321 | exact ka322) (by decide) rfl rfl rfl rfl (Nat.le_of_ble_eq_true rfl) (by decide) (by decide) rfl rfl (fun rv gv Iv Rv hv => ?_)
        obtain ⟨rfl, rfl, rfl, rfl⟩ := hv
        refine q_goto hJ (tgt := 53) dX11_whyNotInsertHere_47 (by decide) ?_
        refine q_iret hM dX11_whyNotInsertHere_53 rfl rfl ?_
        first
          | exact absurd c5 (by decide)
          | exact absurd rfl c5
          | exact ⟨insF_bad (Or.inl c1), rfl, rfl, rfl⟩
          | exact ⟨insF_bad (Or.inr (Or.inl c2)), rfl, rfl, rfl⟩
          | exact ⟨insF_bad (Or.inr (Or.inr (Or.inl c3))), rfl, rfl, rfl⟩
          | exact ⟨insF_bad (Or.inr (Or.inr (Or.inr c4))), rfl, rfl, rfl⟩
          | exact ⟨insF_wn c1 c2 c3 c4, rfl, rfl, rfl⟩
    · refine q_iload_n hJ dX11_whyNotInsertHere_14 (q := 15) rfl rfl ?_
      refine q_callS hJ dX11_whyNotInsertHere_15 (q := 18) rfl (M_isValue o I R) imX11_isValue ln_X11_126 rfl rfl rfl (Nat.le_of_ble_eq_true rfl) (by decide) (by decide) rfl rfl (fun rv gv Iv Rv hv => ?_)
      obtain ⟨rfl, rfl, rfl, rfl⟩ := hv
      refine q_if_eq hJ (tgt := 33) dX11_whyNotInsertHere_18 (q := 21) rfl (by decide) (fun c3 => ?_) (fun c3 => ?_)
      · refine q_iconst hJ (v := 0) dX11_whyNotInsertHere_33 (q := 34) rfl (by decide) ?_
        refine q_istore hJ dX11_whyNotInsertHere_34 (q := 36) rfl (by decide) ?_
        refine q_iload hJ dX11_whyNotInsertHere_36 (q := 38) rfl rfl ?_
        refine q_if_eq hJ (tgt := 50) dX11_whyNotInsertHere_38 (q := 41) rfl (by decide) (fun c5 => ?_) (fun c5 => ?_)
        · refine q_sipush hJ (v := (-1002)) dX11_whyNotInsertHere_50 (q := 53) rfl (by decide) ?_
          refine q_iret hM dX11_whyNotInsertHere_53 rfl rfl ?_
          first
            | exact absurd c5 (by decide)
            | exact absurd rfl c5
            | exact ⟨insF_bad (Or.inl c1), rfl, rfl, rfl⟩
            | exact ⟨insF_bad (Or.inr (Or.inl c2)), rfl, rfl, rfl⟩
            | exact ⟨insF_bad (Or.inr (Or.inr (Or.inl c3))), rfl, rfl, rfl⟩
            | exact ⟨insF_bad (Or.inr (Or.inr (Or.inr c4))), rfl, rfl, rfl⟩
            | exact ⟨insF_wn c1 c2 c3 c4, rfl, rfl, rfl⟩
        · refine q_aload_n hJ dX11_whyNotInsertHere_41 (q := 42) rfl rfl (by first | rfl | exact isR_rr _) ?_
          refine q_iconst hJ (v := 0) dX11_whyNotInsertHere_42 (q := 43) rfl (by decide) ?_
          refine q_iload_n hJ dX11_whyNotInsertHere_43 (q := 44) rfl rfl ?_
          refine q_callV hJ dX11_whyNotInsertHere_44 (q := 47) rfl (M_whyNotInsert 0 (by decide) k A I R hFR hR ok) imX11_whyNotInsert ln_X11_129 (by first | exact ka317 | exact ka318 | exact ka319 | exact ka320 | exact ka321 | exact ka322) (by decide) rfl rfl rfl rfl (Nat.le_of_ble_eq_true rfl) (by decide) (by decide) rfl rfl (fun rv gv Iv Rv hv => ?_)
          obtain ⟨rfl, rfl, rfl, rfl⟩ := hv
          refine q_goto hJ (tgt := 53) dX11_whyNotInsertHere_47 (by decide) ?_
          refine q_iret hM dX11_whyNotInsertHere_53 rfl rfl ?_
          first
            | exact absurd c5 (by decide)
            | exact absurd rfl c5
            | exact ⟨insF_bad (Or.inl c1), rfl, rfl, rfl⟩
            | exact ⟨insF_bad (Or.inr (Or.inl c2)), rfl, rfl, rfl⟩
            | exact ⟨insF_bad (Or.inr (Or.inr (Or.inl c3))), rfl, rfl, rfl⟩
            | exact ⟨insF_bad (Or.inr (Or.inr (Or.inr c4))), rfl, rfl, rfl⟩
            | exact ⟨insF_wn c1 c2 c3 c4, rfl, rfl, rfl⟩
      · refine q_iload hJ dX11_whyNotInsertHere_21 (q := 23) rfl rfl ?_
        refine q_callS hJ dX11_whyNotInsertHere_23 (q := 26) rfl (M_isValue t I R) imX11_isValue ln_X11_126 rfl rfl rfl (Nat.le_of_ble_eq_true rfl) (by decide) (by decide) rfl rfl (fun rv gv Iv Rv hv => ?_)
        obtain ⟨rfl, rfl, rfl, rfl⟩ := hv
        refine q_if_eq hJ (tgt := 33) dX11_whyNotInsertHere_26 (q := 29) rfl (by decide) (fun c4 => ?_) (fun c4 => ?_)
        · refine q_iconst hJ (v := 0) dX11_whyNotInsertHere_33 (q := 34) rfl (by decide) ?_
          refine q_istore hJ dX11_whyNotInsertHere_34 (q := 36) rfl (by decide) ?_
          refine q_iload hJ dX11_whyNotInsertHere_36 (q := 38) rfl rfl ?_
          refine q_if_eq hJ (tgt := 50) dX11_whyNotInsertHere_38 (q := 41) rfl (by decide) (fun c5 => ?_) (fun c5 => ?_)
          · refine q_sipush hJ (v := (-1002)) dX11_whyNotInsertHere_50 (q := 53) rfl (by decide) ?_
            refine q_iret hM dX11_whyNotInsertHere_53 rfl rfl ?_
            first
              | exact absurd c5 (by decide)
              | exact absurd rfl c5
              | exact ⟨insF_bad (Or.inl c1), rfl, rfl, rfl⟩
              | exact ⟨insF_bad (Or.inr (Or.inl c2)), rfl, rfl, rfl⟩
              | exact ⟨insF_bad (Or.inr (Or.inr (Or.inl c3))), rfl, rfl, rfl⟩
              | exact ⟨insF_bad (Or.inr (Or.inr (Or.inr c4))), rfl, rfl, rfl⟩
              | exact ⟨insF_wn c1 c2 c3 c4, rfl, rfl, rfl⟩
          · refine q_aload_n hJ dX11_whyNotInsertHere_41 (q := 42) rfl rfl (by first | rfl | exact isR_rr _) ?_
            refine q_iconst hJ (v := 0) dX11_whyNotInsertHere_42 (q := 43) rfl (by decide) ?_
            refine q_iload_n hJ dX11_whyNotInsertHere_43 (q := 44) rfl rfl ?_
            refine q_callV hJ dX11_whyNotInsertHere_44 (q := 47) rfl (M_whyNotInsert 0 (by decide) k A I R hFR hR ok) imX11_whyNotInsert ln_X11_129 (by first | exact ka317 | exact ka318 | exact ka319 | exact ka320 | exact ka321 | exact ka322) (by decide) rfl rfl rfl rfl (Nat.le_of_ble_eq_true rfl) (by decide) (by decide) rfl rfl (fun rv gv Iv Rv hv => ?_)
            obtain ⟨rfl, rfl, rfl, rfl⟩ := hv
            refine q_goto hJ (tgt := 53) dX11_whyNotInsertHere_47 (by decide) ?_
            refine q_iret hM dX11_whyNotInsertHere_53 rfl rfl ?_
            first
              | exact absurd c5 (by decide)
              | exact absurd rfl c5
              | exact ⟨insF_bad (Or.inl c1), rfl, rfl, rfl⟩
              | exact ⟨insF_bad (Or.inr (Or.inl c2)), rfl, rfl, rfl⟩
              | exact ⟨insF_bad (Or.inr (Or.inr (Or.inl c3))), rfl, rfl, rfl⟩
              | exact ⟨insF_bad (Or.inr (Or.inr (Or.inr c4))), rfl, rfl, rfl⟩
              | exact ⟨insF_wn c1 c2 c3 c4, rfl, rfl, rfl⟩
        · refine q_iconst hJ (v := 1) dX11_whyNotInsertHere_29 (q := 30) rfl (by decide) ?_
          refine q_goto hJ (tgt := 34) dX11_whyNotInsertHere_30 (by decide) ?_
          refine q_istore hJ dX11_whyNotInsertHere_34 (q := 36) rfl (by decide) ?_
          refine q_iload hJ dX11_whyNotInsertHere_36 (q := 38) rfl rfl ?_
          refine q_if_eq hJ (tgt := 50) dX11_whyNotInsertHere_38 (q := 41) rfl (by decide) (fun c5 => ?_) (fun c5 => ?_)
          · refine q_sipush hJ (v := (-1002)) dX11_whyNotInsertHere_50 (q := 53) rfl (by decide) ?_
            refine q_iret hM dX11_whyNotInsertHere_53 rfl rfl ?_
            first
              | exact absurd c5 (by decide)
              | exact absurd rfl c5
              | exact ⟨insF_bad (Or.inl c1), rfl, rfl, rfl⟩
              | exact ⟨insF_bad (Or.inr (Or.inl c2)), rfl, rfl, rfl⟩
              | exact ⟨insF_bad (Or.inr (Or.inr (Or.inl c3))), rfl, rfl, rfl⟩
              | exact ⟨insF_bad (Or.inr (Or.inr (Or.inr c4))), rfl, rfl, rfl⟩
              | exact ⟨insF_wn c1 c2 c3 c4, rfl, rfl, rfl⟩
          · refine q_aload_n hJ dX11_whyNotInsertHere_41 (q := 42) rfl rfl (by first | rfl | exact isR_rr _) ?_
            refine q_iconst hJ (v := 0) dX11_whyNotInsertHere_42 (q := 43) rfl (by decide) ?_
            refine q_iload_n hJ dX11_whyNotInsertHere_43 (q := 44) rfl rfl ?_
            refine q_callV hJ dX11_whyNotInsertHere_44 (q := 47) rfl (M_whyNotInsert 0 (by decide) k A I R hFR hR ok) imX11_whyNotInsert ln_X11_129 (by first | exact ka317 | exact ka318 | exact ka319 | exact ka320 | exact ka321 | exact ka322) (by decide) rfl rfl rfl rfl (Nat.le_of_ble_eq_true rfl) (by decide) (by decide) rfl rfl (fun rv gv Iv Rv hv => ?_)
            obtain ⟨rfl, rfl, rfl, rfl⟩ := hv
            refine q_goto hJ (tgt := 53) dX11_whyNotInsertHere_47 (by decide) ?_
            refine q_iret hM dX11_whyNotInsertHere_53 rfl rfl ?_
            first
              | exact absurd c5 (by decide)
              | exact absurd rfl c5
              | exact ⟨insF_bad (Or.inl c1), rfl, rfl, rfl⟩
              | exact ⟨insF_bad (Or.inr (Or.inl c2)), rfl, rfl, rfl⟩
              | exact ⟨insF_bad (Or.inr (Or.inr (Or.inl c3))), rfl, rfl, rfl⟩
              | exact ⟨insF_bad (Or.inr (Or.inr (Or.inr c4))), rfl, rfl, rfl⟩
              | exact ⟨insF_wn c1 c2 c3 c4, rfl, rfl, rfl⟩

set_option maxRecDepth 100000 in
set_option maxHeartbeats 400000 in
theorem M_wnuHere (k f v : Int32) (A : AS) (I : MI) (R : MR) (hFR : FR R) (hR : RowQ (I 318) 0 (aK A) (aN A)) (ok : okK (aK A) (aN A)) : Sp 2 0 0 mX11_whyNotUpdateHere [.ref 317, .int k, .int f, .int v] g0 I R (Mv (updF A k f v) I R) := by
  have hm0 := hFR.2.2.2.2.2.1
  have hm1 := hFR.2.2.2.2.2.2.1
  have hm3 := hFR.2.2.2.2.2.2.2.1
  have hm5 := hFR.2.2.2.2.2.2.2.2.1
  have hm7 := hFR.2.2.2.2.2.2.2.2.2
  refine Sp.on (by decide +kernel) rfl rfl (fun J hM => ?_)
  have hJ := hM.ok
  rcases hf : fK A k with _ | i
  · refine q_aload_n hJ dX11_whyNotUpdateHere_0 (q := 1) rfl rfl (by first | rfl | exact isR_rr _) ?_
    refine q_iconst hJ (v := 0) dX11_whyNotUpdateHere_1 (q := 2) rfl (by decide) ?_
    refine q_iload_n hJ dX11_whyNotUpdateHere_2 (q := 3) rfl rfl ?_
    refine q_callV hJ dX11_whyNotUpdateHere_3 (q := 6) rfl (M_rowOf I R 0 (aN A) k (by decide) hR.1 hR.2.1 hFR) imX11_rowOf ln_X11_54 (by first | exact ka317 | exact ka318 | exact ka319 | exact ka320 | exact ka321 | exact ka322) (by decide) rfl rfl rfl rfl (Nat.le_of_ble_eq_true rfl) (by decide) (by decide) rfl rfl (fun rv gv Iv Rv hv => ?_)
    obtain ⟨rfl, rfl, rfl, rfl⟩ := hv
    rw [hR.none hf, show rwI 0 none = -1 from rfl]
    refine q_if_ge hJ (tgt := 13) dX11_whyNotUpdateHere_6 (q := 9) rfl (by decide) (fun cr => absurd cr (by decide)) (fun _ => ?_)
    refine q_sipush hJ (v := (-1001)) dX11_whyNotUpdateHere_9 (q := 12) rfl (by decide) ?_
    refine q_iret hM dX11_whyNotUpdateHere_12 rfl rfl ?_
    exact ⟨updF_none hf, rfl, rfl, rfl⟩
  · obtain ⟨j, hj, hm, he⟩ := hR.some ok hf
    have hj20 := hR.2.1
    refine q_aload_n hJ dX11_whyNotUpdateHere_0 (q := 1) rfl rfl (by first | rfl | exact isR_rr _) ?_
    refine q_iconst hJ (v := 0) dX11_whyNotUpdateHere_1 (q := 2) rfl (by decide) ?_
    refine q_iload_n hJ dX11_whyNotUpdateHere_2 (q := 3) rfl rfl ?_
    refine q_callV hJ dX11_whyNotUpdateHere_3 (q := 6) rfl (M_rowOf I R 0 (aN A) k (by decide) hR.1 hR.2.1 hFR) imX11_rowOf ln_X11_54 (by first | exact ka317 | exact ka318 | exact ka319 | exact ka320 | exact ka321 | exact ka322) (by decide) rfl rfl rfl rfl (Nat.le_of_ble_eq_true rfl) (by decide) (by decide) rfl rfl (fun rv gv Iv Rv hv => ?_)
    obtain ⟨rfl, rfl, rfl, rfl⟩ := hv
    rw [hm, show rwI 0 (some j) = nI (0 + 1 + 4 * j) from rfl]
    refine q_if_ge hJ (tgt := 13) dX11_whyNotUpdateHere_6 (q := 9) rfl (by decide) (fun _ => ?_) (fun cr => absurd (nI_pos' (by omega)) cr)
    refine q_iload_n hJ dX11_whyNotUpdateHere_13 (q := 14) rfl rfl ?_
    refine q_iconst hJ (v := 0) dX11_whyNotUpdateHere_14 (q := 15) rfl (by decide) ?_
    refine q_iconst hJ (v := 2) dX11_whyNotUpdateHere_15 (q := 16) rfl (by decide) ?_
    refine q_callS hJ dX11_whyNotUpdateHere_16 (q := 19) rfl (M_in f 0 2 I R) imX11_in ln_X11_25 rfl rfl rfl (Nat.le_of_ble_eq_true rfl) (by decide) (by decide) rfl rfl (fun rv gv Iv Rv hv => ?_)
    obtain ⟨rfl, rfl, rfl, rfl⟩ := hv
    refine q_if_eq hJ (tgt := 40) dX11_whyNotUpdateHere_19 (q := 22) rfl (by decide) (fun c2 => ?_) (fun c2 => ?_)
    · refine q_sipush hJ (v := (-1002)) dX11_whyNotUpdateHere_40 (q := 43) rfl (by decide) ?_
      refine q_iret hM dX11_whyNotUpdateHere_43 rfl rfl ?_
      first
        | exact ⟨updF_bad hf (Or.inl c2), rfl, rfl, rfl⟩
        | exact ⟨updF_bad hf (Or.inr c3), rfl, rfl, rfl⟩
        | exact ⟨updF_wn hf hf3 c2 c3, rfl, rfl, rfl⟩
    · refine q_iload_n hJ dX11_whyNotUpdateHere_22 (q := 23) rfl rfl ?_
      refine q_callS hJ dX11_whyNotUpdateHere_23 (q := 26) rfl (M_isValue v I R) imX11_isValue ln_X11_126 rfl rfl rfl (Nat.le_of_ble_eq_true rfl) (by decide) (by decide) rfl rfl (fun rv gv Iv Rv hv => ?_)
      obtain ⟨rfl, rfl, rfl, rfl⟩ := hv
      refine q_if_eq hJ (tgt := 40) dX11_whyNotUpdateHere_26 (q := 29) rfl (by decide) (fun c3 => ?_) (fun c3 => ?_)
      · refine q_sipush hJ (v := (-1002)) dX11_whyNotUpdateHere_40 (q := 43) rfl (by decide) ?_
        refine q_iret hM dX11_whyNotUpdateHere_43 rfl rfl ?_
        first
          | exact ⟨updF_bad hf (Or.inl c2), rfl, rfl, rfl⟩
          | exact ⟨updF_bad hf (Or.inr c3), rfl, rfl, rfl⟩
          | exact ⟨updF_wn hf hf3 c2 c3, rfl, rfl, rfl⟩
      · refine q_aload_n hJ dX11_whyNotUpdateHere_29 (q := 30) rfl rfl (by first | rfl | exact isR_rr _) ?_
        refine q_iconst hJ (v := 0) dX11_whyNotUpdateHere_30 (q := 31) rfl (by decide) ?_
        refine q_iload_n hJ dX11_whyNotUpdateHere_31 (q := 32) rfl rfl ?_
        refine q_iload_n hJ dX11_whyNotUpdateHere_32 (q := 33) rfl rfl ?_
        refine q_iload_n hJ dX11_whyNotUpdateHere_33 (q := 34) rfl rfl ?_
        obtain ⟨f', hf3, rfl⟩ := n_02 (inR_ne c2)
        refine q_callV hJ dX11_whyNotUpdateHere_34 (q := 37) rfl (M_whyNotUpdate 0 f' (by decide) hf3 k v A I R hFR hR ok) imX11_whyNotUpdate ln_X11_132 (by first | exact ka317 | exact ka318 | exact ka319 | exact ka320 | exact ka321 | exact ka322) (by decide) rfl rfl rfl rfl (Nat.le_of_ble_eq_true rfl) (by decide) (by decide) rfl rfl (fun rv gv Iv Rv hv => ?_)
        obtain ⟨rfl, rfl, rfl, rfl⟩ := hv
        refine q_goto hJ (tgt := 43) dX11_whyNotUpdateHere_37 (by decide) ?_
        refine q_iret hM dX11_whyNotUpdateHere_43 rfl rfl ?_
        first
          | exact ⟨updF_bad hf (Or.inl c2), rfl, rfl, rfl⟩
          | exact ⟨updF_bad hf (Or.inr c3), rfl, rfl, rfl⟩
          | exact ⟨updF_wn hf hf3 c2 c3, rfl, rfl, rfl⟩

set_option maxRecDepth 100000 in
set_option maxHeartbeats 400000 in
theorem M_told (w : Int32) (X : XS) (I : MI) (R : MR) (hFR : FR R) (h1 : I 317 8 = nI (xO X)) (h2 : I 317 9 = xF X) (h3 : I 317 10 = xD X) (h4 : I 317 11 = xR X) (h5 : I 317 12 = xW X) : Sp 0 0 0 mX11_told [.ref 317, .int w] g0 I R (Mv (telX X w) I R) := by
  have hm0 := hFR.2.2.2.2.2.1
  have hm1 := hFR.2.2.2.2.2.2.1
  have hm3 := hFR.2.2.2.2.2.2.2.1
  have hm5 := hFR.2.2.2.2.2.2.2.2.1
  have hm7 := hFR.2.2.2.2.2.2.2.2.2
  refine Sp.on (by decide +kernel) rfl rfl (fun J hM => ?_)
  have hJ := hM.ok
  refine q_iload_n hJ dX11_told_0 (q := 1) rfl rfl ?_
  refine q_if_ne hJ (tgt := 11) dX11_told_1 (q := 4) rfl (by decide) (fun c0 => ?_) (fun c0 => ?_)
  · refine q_iload_n hJ dX11_told_11 (q := 12) rfl rfl ?_
    refine q_iconst hJ (v := 1) dX11_told_12 (q := 13) rfl (by decide) ?_
    refine q_icmp_ne hJ (tgt := 23) dX11_told_13 (q := 16) rfl (by decide) (fun c1 => ?_) (fun c1 => ?_)
    · refine q_iload_n hJ dX11_told_23 (q := 24) rfl rfl ?_
      refine q_iconst hJ (v := 2) dX11_told_24 (q := 25) rfl (by decide) ?_
      refine q_icmp_ne hJ (tgt := 35) dX11_told_25 (q := 28) rfl (by decide) (fun c2 => ?_) (fun c2 => ?_)
      · refine q_iload_n hJ dX11_told_35 (q := 36) rfl rfl ?_
        refine q_iconst hJ (v := 3) dX11_told_36 (q := 37) rfl (by decide) ?_
        refine q_icmp_ne hJ (tgt := 47) dX11_told_37 (q := 40) rfl (by decide) (fun c3 => ?_) (fun c3 => ?_)
        · refine q_aload_n hJ dX11_told_47 (q := 48) rfl rfl (by first | rfl | exact isR_rr _) ?_
          refine q_getI hJ dX11_told_48 (q := 51) rfl fl_X11_70 rfl (by first | exact ka317 | exact ka318 | exact ka319 | exact ka320 | exact ka321 | exact ka322) h3 ?_
          refine q_iret hM dX11_told_51 rfl rfl ?_
          first
            | exact ⟨congrArg (fun x => some (Value.int x)) (show _ = telX X w by unfold telX; exact (if_pos c0).symm), rfl, rfl, rfl⟩
            | exact ⟨congrArg (fun x => some (Value.int x)) (show _ = telX X w by unfold telX; exact ((if_neg c0).trans (if_pos c1)).symm), rfl, rfl, rfl⟩
            | exact ⟨congrArg (fun x => some (Value.int x)) (show _ = telX X w by unfold telX; exact ((if_neg c0).trans ((if_neg c1).trans (if_pos c2))).symm), rfl, rfl, rfl⟩
            | exact ⟨congrArg (fun x => some (Value.int x)) (show _ = telX X w by unfold telX; exact ((if_neg c0).trans ((if_neg c1).trans ((if_neg c2).trans (if_pos c3)))).symm), rfl, rfl, rfl⟩
            | exact ⟨congrArg (fun x => some (Value.int x)) (show _ = telX X w by unfold telX; exact ((if_neg c0).trans ((if_neg c1).trans ((if_neg c2).trans (if_neg c3)))).symm), rfl, rfl, rfl⟩
        · refine q_aload_n hJ dX11_told_40 (q := 41) rfl rfl (by first | rfl | exact isR_rr _) ?_
          refine q_getI hJ dX11_told_41 (q := 44) rfl fl_X11_83 rfl (by first | exact ka317 | exact ka318 | exact ka319 | exact ka320 | exact ka321 | exact ka322) h2 ?_
          refine q_goto hJ (tgt := 51) dX11_told_44 (by decide) ?_
          refine q_iret hM dX11_told_51 rfl rfl ?_
          first
            | exact ⟨congrArg (fun x => some (Value.int x)) (show _ = telX X w by unfold telX; exact (if_pos c0).symm), rfl, rfl, rfl⟩
            | exact ⟨congrArg (fun x => some (Value.int x)) (show _ = telX X w by unfold telX; exact ((if_neg c0).trans (if_pos c1)).symm), rfl, rfl, rfl⟩
            | exact ⟨congrArg (fun x => some (Value.int x)) (show _ = telX X w by unfold telX; exact ((if_neg c0).trans ((if_neg c1).trans (if_pos c2))).symm), rfl, rfl, rfl⟩
            | exact ⟨congrArg (fun x => some (Value.int x)) (show _ = telX X w by unfold telX; exact ((if_neg c0).trans ((if_neg c1).trans ((if_neg c2).trans (if_pos c3)))).symm), rfl, rfl, rfl⟩
            | exact ⟨congrArg (fun x => some (Value.int x)) (show _ = telX X w by unfold telX; exact ((if_neg c0).trans ((if_neg c1).trans ((if_neg c2).trans (if_neg c3)))).symm), rfl, rfl, rfl⟩
      · refine q_aload_n hJ dX11_told_28 (q := 29) rfl rfl (by first | rfl | exact isR_rr _) ?_
        refine q_getI hJ dX11_told_29 (q := 32) rfl fl_X11_64 rfl (by first | exact ka317 | exact ka318 | exact ka319 | exact ka320 | exact ka321 | exact ka322) h1 ?_
        refine q_goto hJ (tgt := 51) dX11_told_32 (by decide) ?_
        refine q_iret hM dX11_told_51 rfl rfl ?_
        first
          | exact ⟨congrArg (fun x => some (Value.int x)) (show _ = telX X w by unfold telX; exact (if_pos c0).symm), rfl, rfl, rfl⟩
          | exact ⟨congrArg (fun x => some (Value.int x)) (show _ = telX X w by unfold telX; exact ((if_neg c0).trans (if_pos c1)).symm), rfl, rfl, rfl⟩
          | exact ⟨congrArg (fun x => some (Value.int x)) (show _ = telX X w by unfold telX; exact ((if_neg c0).trans ((if_neg c1).trans (if_pos c2))).symm), rfl, rfl, rfl⟩
          | exact ⟨congrArg (fun x => some (Value.int x)) (show _ = telX X w by unfold telX; exact ((if_neg c0).trans ((if_neg c1).trans ((if_neg c2).trans (if_pos c3)))).symm), rfl, rfl, rfl⟩
          | exact ⟨congrArg (fun x => some (Value.int x)) (show _ = telX X w by unfold telX; exact ((if_neg c0).trans ((if_neg c1).trans ((if_neg c2).trans (if_neg c3)))).symm), rfl, rfl, rfl⟩
    · refine q_aload_n hJ dX11_told_16 (q := 17) rfl rfl (by first | rfl | exact isR_rr _) ?_
      refine q_getI hJ dX11_told_17 (q := 20) rfl fl_X11_51 rfl (by first | exact ka317 | exact ka318 | exact ka319 | exact ka320 | exact ka321 | exact ka322) h5 ?_
      refine q_goto hJ (tgt := 51) dX11_told_20 (by decide) ?_
      refine q_iret hM dX11_told_51 rfl rfl ?_
      first
        | exact ⟨congrArg (fun x => some (Value.int x)) (show _ = telX X w by unfold telX; exact (if_pos c0).symm), rfl, rfl, rfl⟩
        | exact ⟨congrArg (fun x => some (Value.int x)) (show _ = telX X w by unfold telX; exact ((if_neg c0).trans (if_pos c1)).symm), rfl, rfl, rfl⟩
        | exact ⟨congrArg (fun x => some (Value.int x)) (show _ = telX X w by unfold telX; exact ((if_neg c0).trans ((if_neg c1).trans (if_pos c2))).symm), rfl, rfl, rfl⟩
        | exact ⟨congrArg (fun x => some (Value.int x)) (show _ = telX X w by unfold telX; exact ((if_neg c0).trans ((if_neg c1).trans ((if_neg c2).trans (if_pos c3)))).symm), rfl, rfl, rfl⟩
        | exact ⟨congrArg (fun x => some (Value.int x)) (show _ = telX X w by unfold telX; exact ((if_neg c0).trans ((if_neg c1).trans ((if_neg c2).trans (if_neg c3)))).symm), rfl, rfl, rfl⟩
  · refine q_aload_n hJ dX11_told_4 (q := 5) rfl rfl (by first | rfl | exact isR_rr _) ?_
    refine q_getI hJ dX11_told_5 (q := 8) rfl fl_X11_48 rfl (by first | exact ka317 | exact ka318 | exact ka319 | exact ka320 | exact ka321 | exact ka322) h4 ?_
    refine q_goto hJ (tgt := 51) dX11_told_8 (by decide) ?_
    refine q_iret hM dX11_told_51 rfl rfl ?_
    first
      | exact ⟨congrArg (fun x => some (Value.int x)) (show _ = telX X w by unfold telX; exact (if_pos c0).symm), rfl, rfl, rfl⟩
      | exact ⟨congrArg (fun x => some (Value.int x)) (show _ = telX X w by unfold telX; exact ((if_neg c0).trans (if_pos c1)).symm), rfl, rfl, rfl⟩
      | exact ⟨congrArg (fun x => some (Value.int x)) (show _ = telX X w by unfold telX; exact ((if_neg c0).trans ((if_neg c1).trans (if_pos c2))).symm), rfl, rfl, rfl⟩
      | exact ⟨congrArg (fun x => some (Value.int x)) (show _ = telX X w by unfold telX; exact ((if_neg c0).trans ((if_neg c1).trans ((if_neg c2).trans (if_pos c3)))).symm), rfl, rfl, rfl⟩
      | exact ⟨congrArg (fun x => some (Value.int x)) (show _ = telX X w by unfold telX; exact ((if_neg c0).trans ((if_neg c1).trans ((if_neg c2).trans (if_neg c3)))).symm), rfl, rfl, rfl⟩

set_option maxRecDepth 100000 in
set_option maxHeartbeats 400000 in
theorem M_insert (k z o t : Int32) (A : AS) (hs : Nat → AS) (h : Nat) (sn : AS) (kp : Bool) (tx : Nat → Int32) (tn : Nat) (I : MI) (R : MR) (hFR : FR R) (H : MOD I A hs h sn kp tx tn) : Sp 9 0 0 mX11_insert [.ref 317, .int k, .int z, .int o, .int t] g0 I R (MoP (stR (insF A k z o t) 0 (insI k z o t) A) I R (fun I' => MSy I' (stOk (insF A k z o t) 0 (insI k z o t) A) A (finA (XR 0 (insI k z o t) A)) hs h sn kp tx tn)) := by
  have hm0 := hFR.2.2.2.2.2.1
  have hm1 := hFR.2.2.2.2.2.2.1
  have hm3 := hFR.2.2.2.2.2.2.2.1
  have hm5 := hFR.2.2.2.2.2.2.2.2.1
  have hm7 := hFR.2.2.2.2.2.2.2.2.2
  have hR := H.1.1
  have ok := H.2.1.1
  refine Sp.on (by decide +kernel) rfl rfl (fun J hM => ?_)
  have hJ := hM.ok
  refine q_aload_n hJ dX11_insert_0 (q := 1) rfl rfl (by first | rfl | exact isR_rr _) ?_
  refine q_iload_n hJ dX11_insert_1 (q := 2) rfl rfl ?_
  refine q_iload_n hJ dX11_insert_2 (q := 3) rfl rfl ?_
  refine q_iload_n hJ dX11_insert_3 (q := 4) rfl rfl ?_
  refine q_iload hJ dX11_insert_4 (q := 6) rfl rfl ?_
  refine q_callV hJ dX11_insert_6 (q := 9) rfl (M_wniHere k z o t A I R hFR hR ok) imX11_whyNotInsertHere ln_X11_135 (by first | exact ka317 | exact ka318 | exact ka319 | exact ka320 | exact ka321 | exact ka322) (by decide) rfl rfl rfl rfl (Nat.le_of_ble_eq_true rfl) (by decide) (by decide) rfl rfl (fun rv gv Iv Rv hv => ?_)
  obtain ⟨rfl, rfl, rfl, rfl⟩ := hv
  refine q_istore hJ dX11_insert_9 (q := 11) rfl (by decide) ?_
  refine q_iload hJ dX11_insert_11 (q := 13) rfl rfl ?_
  refine q_if_eq hJ (tgt := 19) dX11_insert_13 (q := 16) rfl (by decide) (fun c1 => ?_) (fun c1 => ?_)
  · refine q_aload_n hJ dX11_insert_19 (q := 20) rfl rfl (by first | rfl | exact isR_rr _) ?_
    refine q_iconst hJ (v := 0) dX11_insert_20 (q := 21) rfl (by decide) ?_
    refine q_sipush hJ (v := 413) dX11_insert_21 (q := 24) rfl (by decide) ?_
    refine q_callV hJ dX11_insert_24 (q := 27) rfl (M_copies 0 413 (Or.inl ⟨rfl, rfl⟩) I R hFR) imX11_copies ln_X11_36 (by first | exact ka317 | exact ka318 | exact ka319 | exact ka320 | exact ka321 | exact ka322) (by decide) rfl rfl rfl rfl (Nat.le_of_ble_eq_true rfl) (by decide) (by decide) rfl rfl (fun rv gv Iv Rv hv => ?_)
    obtain ⟨rfl, rfl, rfl, rfl⟩ := hv
    have hB := H.beside
    refine q_aload_n hJ dX11_insert_27 (q := 28) rfl rfl (by first | rfl | exact isR_rr _) ?_
    refine q_sipush hJ (v := 413) dX11_insert_28 (q := 31) rfl (by decide) ?_
    refine q_iload_n hJ dX11_insert_31 (q := 32) rfl rfl ?_
    refine q_iload_n hJ dX11_insert_32 (q := 33) rfl rfl ?_
    refine q_iload_n hJ dX11_insert_33 (q := 34) rfl rfl ?_
    refine q_iload hJ dX11_insert_34 (q := 36) rfl rfl ?_
    refine q_callV hJ dX11_insert_36 (q := 39) rfl (M_runsInsert 413 (by decide) k z o t A _ R hFR hB H.2.1 (insF_0 c1)) imX11_runsInsert ln_X11_138 (by first | exact ka317 | exact ka318 | exact ka319 | exact ka320 | exact ka321 | exact ka322) (by decide) rfl rfl rfl rfl (Nat.le_of_ble_eq_true rfl) (by decide) (by decide) rfl rfl (fun rv gv Iv Rv hv => ?_)
    obtain ⟨rfl, rfl, rfl, hk, hmS, hokS, e8, e9, e10, e11, e12⟩ := hv
    have hk2 := (kp_copy I).tr hk
    have H2 := H.kp hk2
    refine q_aload_n hJ dX11_insert_39 (q := 40) rfl rfl (by first | rfl | exact isR_rr _) ?_
    refine q_callV hJ dX11_insert_40 (q := 43) rfl (M_ends (XR 0 (insI k z o t) A) A hs h sn kp tx tn _ R hFR H2 hmS hokS e8 e11 (XR_nn _ _ _)) imX11_ends ln_X11_142 (by first | exact ka317 | exact ka318 | exact ka319 | exact ka320 | exact ka321 | exact ka322) (by decide) rfl rfl rfl rfl (Nat.le_of_ble_eq_true rfl) (by decide) (by decide) rfl rfl (fun rv gv Iv Rv hv => ?_)
    obtain ⟨rfl, rfl, rfl, hlo, hfin⟩ := hv
    refine q_iret hM dX11_insert_43 rfl rfl ?_
    refine ⟨by rw [stR, if_pos c1], rfl, rfl, fun a ha => (hlo a ha).trans (hk2.low a ha), ?_⟩
    by_cases hx : xR (XR 0 (insI k z o t) A) = 0
    · exact Or.inl ⟨⟨c1, hx⟩, by rw [if_pos hx] at hfin; exact hfin⟩
    · exact Or.inr ⟨fun z => hx z.2, by rw [if_neg hx] at hfin; exact hfin⟩
  · refine q_iload hJ dX11_insert_16 (q := 18) rfl rfl ?_
    refine q_iret hM dX11_insert_18 rfl rfl ?_
    exact ⟨by rw [stR, if_neg c1], rfl, rfl, fun _ _ => rfl, Or.inr ⟨fun z => c1 z.1, H⟩⟩

set_option maxRecDepth 100000 in
set_option maxHeartbeats 400000 in
theorem M_update (k f v : Int32) (A : AS) (hs : Nat → AS) (h : Nat) (sn : AS) (kp : Bool) (tx : Nat → Int32) (tn : Nat) (I : MI) (R : MR) (hFR : FR R) (H : MOD I A hs h sn kp tx tn) : Sp 9 0 0 mX11_update [.ref 317, .int k, .int f, .int v] g0 I R (MoP (stR (updF A k f v) 1 (updI A k f v) A) I R (fun I' => MSy I' (stOk (updF A k f v) 1 (updI A k f v) A) A (finA (XR 1 (updI A k f v) A)) hs h sn kp tx tn)) := by
  have hm0 := hFR.2.2.2.2.2.1
  have hm1 := hFR.2.2.2.2.2.2.1
  have hm3 := hFR.2.2.2.2.2.2.2.1
  have hm5 := hFR.2.2.2.2.2.2.2.2.1
  have hm7 := hFR.2.2.2.2.2.2.2.2.2
  have hR := H.1.1
  have ok := H.2.1.1
  refine Sp.on (by decide +kernel) rfl rfl (fun J hM => ?_)
  have hJ := hM.ok
  refine q_aload_n hJ dX11_update_0 (q := 1) rfl rfl (by first | rfl | exact isR_rr _) ?_
  refine q_iload_n hJ dX11_update_1 (q := 2) rfl rfl ?_
  refine q_iload_n hJ dX11_update_2 (q := 3) rfl rfl ?_
  refine q_iload_n hJ dX11_update_3 (q := 4) rfl rfl ?_
  refine q_callV hJ dX11_update_4 (q := 7) rfl (M_wnuHere k f v A I R hFR hR ok) imX11_whyNotUpdateHere ln_X11_146 (by first | exact ka317 | exact ka318 | exact ka319 | exact ka320 | exact ka321 | exact ka322) (by decide) rfl rfl rfl rfl (Nat.le_of_ble_eq_true rfl) (by decide) (by decide) rfl rfl (fun rv gv Iv Rv hv => ?_)
  obtain ⟨rfl, rfl, rfl, rfl⟩ := hv
  refine q_istore hJ dX11_update_7 (q := 9) rfl (by decide) ?_
  refine q_iload hJ dX11_update_9 (q := 11) rfl rfl ?_
  refine q_if_eq hJ (tgt := 17) dX11_update_11 (q := 14) rfl (by decide) (fun c1 => ?_) (fun c1 => ?_)
  · refine q_aload_n hJ dX11_update_17 (q := 18) rfl rfl (by first | rfl | exact isR_rr _) ?_
    refine q_iconst hJ (v := 0) dX11_update_18 (q := 19) rfl (by decide) ?_
    refine q_sipush hJ (v := 413) dX11_update_19 (q := 22) rfl (by decide) ?_
    refine q_callV hJ dX11_update_22 (q := 25) rfl (M_copies 0 413 (Or.inl ⟨rfl, rfl⟩) I R hFR) imX11_copies ln_X11_36 (by first | exact ka317 | exact ka318 | exact ka319 | exact ka320 | exact ka321 | exact ka322) (by decide) rfl rfl rfl rfl (Nat.le_of_ble_eq_true rfl) (by decide) (by decide) rfl rfl (fun rv gv Iv Rv hv => ?_)
    obtain ⟨rfl, rfl, rfl, rfl⟩ := hv
    have hB := H.beside
    refine q_aload_n hJ dX11_update_25 (q := 26) rfl rfl (by first | rfl | exact isR_rr _) ?_
    refine q_sipush hJ (v := 413) dX11_update_26 (q := 29) rfl (by decide) ?_
    refine q_iload_n hJ dX11_update_29 (q := 30) rfl rfl ?_
    refine q_iload_n hJ dX11_update_30 (q := 31) rfl rfl ?_
    refine q_iload_n hJ dX11_update_31 (q := 32) rfl rfl ?_
    obtain ⟨f', hf3, rfl⟩ := (updF_0 c1).2
    refine q_callV hJ dX11_update_32 (q := 35) rfl (M_runsUpdate 413 f' hf3 (by decide) k v (updI A k (nI f') v) A _ R hFR hB H.2.1 (updF_0 c1).1) imX11_runsUpdate ln_X11_149 (by first | exact ka317 | exact ka318 | exact ka319 | exact ka320 | exact ka321 | exact ka322) (by decide) rfl rfl rfl rfl (Nat.le_of_ble_eq_true rfl) (by decide) (by decide) rfl rfl (fun rv gv Iv Rv hv => ?_)
    obtain ⟨rfl, rfl, rfl, hk, hmS, hokS, e8, e9, e10, e11, e12⟩ := hv
    have hk2 := (kp_copy I).tr hk
    have H2 := H.kp hk2
    refine q_aload_n hJ dX11_update_35 (q := 36) rfl rfl (by first | rfl | exact isR_rr _) ?_
    refine q_callV hJ dX11_update_36 (q := 39) rfl (M_ends (XR 1 (updI A k (nI f') v) A) A hs h sn kp tx tn _ R hFR H2 hmS hokS e8 e11 (XR_nn _ _ _)) imX11_ends ln_X11_142 (by first | exact ka317 | exact ka318 | exact ka319 | exact ka320 | exact ka321 | exact ka322) (by decide) rfl rfl rfl rfl (Nat.le_of_ble_eq_true rfl) (by decide) (by decide) rfl rfl (fun rv gv Iv Rv hv => ?_)
    obtain ⟨rfl, rfl, rfl, hlo, hfin⟩ := hv
    refine q_iret hM dX11_update_39 rfl rfl ?_
    refine ⟨by rw [stR, if_pos c1], rfl, rfl, fun a ha => (hlo a ha).trans (hk2.low a ha), ?_⟩
    by_cases hx : xR (XR 1 (updI A k (nI f') v) A) = 0
    · exact Or.inl ⟨⟨c1, hx⟩, by rw [if_pos hx] at hfin; exact hfin⟩
    · exact Or.inr ⟨fun z => hx z.2, by rw [if_neg hx] at hfin; exact hfin⟩
  · refine q_iload hJ dX11_update_14 (q := 16) rfl rfl ?_
    refine q_iret hM dX11_update_16 rfl rfl ?_
    exact ⟨by rw [stR, if_neg c1], rfl, rfl, fun _ _ => rfl, Or.inr ⟨fun z => c1 z.1, H⟩⟩

set_option maxRecDepth 100000 in
set_option maxHeartbeats 400000 in
theorem M_delete (k : Int32) (A : AS) (hs : Nat → AS) (h : Nat) (sn : AS) (kp : Bool) (tx : Nat → Int32) (tn : Nat) (I : MI) (R : MR) (hFR : FR R) (H : MOD I A hs h sn kp tx tn) : Sp 9 0 0 mX11_delete [.ref 317, .int k] g0 I R (MoP (stR (dltF A k) 2 (dltI A k) A) I R (fun I' => MSy I' (stOk (dltF A k) 2 (dltI A k) A) A (finA (XR 2 (dltI A k) A)) hs h sn kp tx tn)) := by
  have hm0 := hFR.2.2.2.2.2.1
  have hm1 := hFR.2.2.2.2.2.2.1
  have hm3 := hFR.2.2.2.2.2.2.2.1
  have hm5 := hFR.2.2.2.2.2.2.2.2.1
  have hm7 := hFR.2.2.2.2.2.2.2.2.2
  have hR := H.1.1
  have ok := H.2.1.1
  refine Sp.on (by decide +kernel) rfl rfl (fun J hM => ?_)
  have hJ := hM.ok
  rcases hf : fK A k with _ | i
  · refine q_aload_n hJ dX11_delete_0 (q := 1) rfl rfl (by first | rfl | exact isR_rr _) ?_
    refine q_iconst hJ (v := 0) dX11_delete_1 (q := 2) rfl (by decide) ?_
    refine q_iload_n hJ dX11_delete_2 (q := 3) rfl rfl ?_
    refine q_callV hJ dX11_delete_3 (q := 6) rfl (M_rowOf I R 0 (aN A) k (by decide) hR.1 hR.2.1 hFR) imX11_rowOf ln_X11_54 (by first | exact ka317 | exact ka318 | exact ka319 | exact ka320 | exact ka321 | exact ka322) (by decide) rfl rfl rfl rfl (Nat.le_of_ble_eq_true rfl) (by decide) (by decide) rfl rfl (fun rv gv Iv Rv hv => ?_)
    obtain ⟨rfl, rfl, rfl, rfl⟩ := hv
    rw [hR.none hf, show rwI 0 none = -1 from rfl]
    refine q_if_ge hJ (tgt := 13) dX11_delete_6 (q := 9) rfl (by decide) (fun cr => absurd cr (by decide)) (fun _ => ?_)
    refine q_sipush hJ (v := (-1001)) dX11_delete_9 (q := 12) rfl (by decide) ?_
    refine q_iret hM dX11_delete_12 rfl rfl ?_
    exact ⟨by rw [stR, dltF_n hf]; rfl, rfl, rfl, fun _ _ => rfl, Or.inr ⟨fun z => absurd (z.1.symm.trans (dltF_n hf)) (by decide), H⟩⟩
  · obtain ⟨j, hj, hm, he⟩ := hR.some ok hf
    have hj20 := hR.2.1
    have c1 := dltF_s hf
    refine q_aload_n hJ dX11_delete_0 (q := 1) rfl rfl (by first | rfl | exact isR_rr _) ?_
    refine q_iconst hJ (v := 0) dX11_delete_1 (q := 2) rfl (by decide) ?_
    refine q_iload_n hJ dX11_delete_2 (q := 3) rfl rfl ?_
    refine q_callV hJ dX11_delete_3 (q := 6) rfl (M_rowOf I R 0 (aN A) k (by decide) hR.1 hR.2.1 hFR) imX11_rowOf ln_X11_54 (by first | exact ka317 | exact ka318 | exact ka319 | exact ka320 | exact ka321 | exact ka322) (by decide) rfl rfl rfl rfl (Nat.le_of_ble_eq_true rfl) (by decide) (by decide) rfl rfl (fun rv gv Iv Rv hv => ?_)
    obtain ⟨rfl, rfl, rfl, rfl⟩ := hv
    rw [hm, show rwI 0 (some j) = nI (0 + 1 + 4 * j) from rfl]
    refine q_if_ge hJ (tgt := 13) dX11_delete_6 (q := 9) rfl (by decide) (fun _ => ?_) (fun cr => absurd (nI_pos' (by omega)) cr)
    refine q_aload_n hJ dX11_delete_13 (q := 14) rfl rfl (by first | rfl | exact isR_rr _) ?_
    refine q_iconst hJ (v := 0) dX11_delete_14 (q := 15) rfl (by decide) ?_
    refine q_sipush hJ (v := 413) dX11_delete_15 (q := 18) rfl (by decide) ?_
    refine q_callV hJ dX11_delete_18 (q := 21) rfl (M_copies 0 413 (Or.inl ⟨rfl, rfl⟩) I R hFR) imX11_copies ln_X11_36 (by first | exact ka317 | exact ka318 | exact ka319 | exact ka320 | exact ka321 | exact ka322) (by decide) rfl rfl rfl rfl (Nat.le_of_ble_eq_true rfl) (by decide) (by decide) rfl rfl (fun rv gv Iv Rv hv => ?_)
    obtain ⟨rfl, rfl, rfl, rfl⟩ := hv
    have hB := H.beside
    refine q_aload_n hJ dX11_delete_21 (q := 22) rfl rfl (by first | rfl | exact isR_rr _) ?_
    refine q_sipush hJ (v := 413) dX11_delete_22 (q := 25) rfl (by decide) ?_
    refine q_iload_n hJ dX11_delete_25 (q := 26) rfl rfl ?_
    refine q_callV hJ dX11_delete_26 (q := 29) rfl (M_runsDelete 413 (by decide) k (dltI A k) A _ R hFR hB H.2.1 (dltF_0 c1)) imX11_runsDelete ln_X11_152 (by first | exact ka317 | exact ka318 | exact ka319 | exact ka320 | exact ka321 | exact ka322) (by decide) rfl rfl rfl rfl (Nat.le_of_ble_eq_true rfl) (by decide) (by decide) rfl rfl (fun rv gv Iv Rv hv => ?_)
    obtain ⟨rfl, rfl, rfl, hk, hmS, hokS, e8, e9, e10, e11, e12⟩ := hv
    have hk2 := (kp_copy I).tr hk
    have H2 := H.kp hk2
    refine q_aload_n hJ dX11_delete_29 (q := 30) rfl rfl (by first | rfl | exact isR_rr _) ?_
    refine q_callV hJ dX11_delete_30 (q := 33) rfl (M_ends (XR 2 (dltI A k) A) A hs h sn kp tx tn _ R hFR H2 hmS hokS e8 e11 (XR_nn _ _ _)) imX11_ends ln_X11_142 (by first | exact ka317 | exact ka318 | exact ka319 | exact ka320 | exact ka321 | exact ka322) (by decide) rfl rfl rfl rfl (Nat.le_of_ble_eq_true rfl) (by decide) (by decide) rfl rfl (fun rv gv Iv Rv hv => ?_)
    obtain ⟨rfl, rfl, rfl, hlo, hfin⟩ := hv
    refine q_iret hM dX11_delete_33 rfl rfl ?_
    refine ⟨by rw [stR, if_pos c1], rfl, rfl, fun a ha => (hlo a ha).trans (hk2.low a ha), ?_⟩
    by_cases hx : xR (XR 2 (dltI A k) A) = 0
    · exact Or.inl ⟨⟨c1, hx⟩, by rw [if_pos hx] at hfin; exact hfin⟩
    · exact Or.inr ⟨fun z => hx z.2, by rw [if_neg hx] at hfin; exact hfin⟩

set_option maxRecDepth 100000 in
set_option maxHeartbeats 400000 in
theorem M_ifIns (k z o t w : Int32) (A : AS) (hs : Nat → AS) (h : Nat) (sn : AS) (kp : Bool) (tx : Nat → Int32) (tn : Nat) (I : MI) (R : MR) (hFR : FR R) (H : MOD I A hs h sn kp tx tn) : Sp 9 0 0 mX11_ifInserted [.ref 317, .int k, .int z, .int o, .int t, .int w] g0 I R (MoP (ifV (insF A k z o t) w (XR 0 (insI k z o t) A)) I R (fun I' => MOD I' A hs h sn kp tx tn)) := by
  have hm0 := hFR.2.2.2.2.2.1
  have hm1 := hFR.2.2.2.2.2.2.1
  have hm3 := hFR.2.2.2.2.2.2.2.1
  have hm5 := hFR.2.2.2.2.2.2.2.2.1
  have hm7 := hFR.2.2.2.2.2.2.2.2.2
  have hR := H.1.1
  have ok := H.2.1.1
  refine Sp.on (by decide +kernel) rfl rfl (fun J hM => ?_)
  have hJ := hM.ok
  refine q_aload_n hJ dX11_ifInserted_0 (q := 1) rfl rfl (by first | rfl | exact isR_rr _) ?_
  refine q_iload_n hJ dX11_ifInserted_1 (q := 2) rfl rfl ?_
  refine q_iload_n hJ dX11_ifInserted_2 (q := 3) rfl rfl ?_
  refine q_iload_n hJ dX11_ifInserted_3 (q := 4) rfl rfl ?_
  refine q_iload hJ dX11_ifInserted_4 (q := 6) rfl rfl ?_
  refine q_callV hJ dX11_ifInserted_6 (q := 9) rfl (M_wniHere k z o t A I R hFR hR ok) imX11_whyNotInsertHere ln_X11_135 (by first | exact ka317 | exact ka318 | exact ka319 | exact ka320 | exact ka321 | exact ka322) (by decide) rfl rfl rfl rfl (Nat.le_of_ble_eq_true rfl) (by decide) (by decide) rfl rfl (fun rv gv Iv Rv hv => ?_)
  obtain ⟨rfl, rfl, rfl, rfl⟩ := hv
  refine q_istore hJ dX11_ifInserted_9 (q := 11) rfl (by decide) ?_
  refine q_iload hJ dX11_ifInserted_11 (q := 13) rfl rfl ?_
  refine q_if_eq hJ (tgt := 19) dX11_ifInserted_13 (q := 16) rfl (by decide) (fun c1 => ?_) (fun c1 => ?_)
  · refine q_iload hJ dX11_ifInserted_19 (q := 21) rfl rfl ?_
    refine q_iconst hJ (v := 0) dX11_ifInserted_21 (q := 22) rfl (by decide) ?_
    refine q_iconst hJ (v := 4) dX11_ifInserted_22 (q := 23) rfl (by decide) ?_
    refine q_callS hJ dX11_ifInserted_23 (q := 26) rfl (M_in w 0 4 I R) imX11_in ln_X11_25 rfl rfl rfl (Nat.le_of_ble_eq_true rfl) (by decide) (by decide) rfl rfl (fun rv gv Iv Rv hv => ?_)
    obtain ⟨rfl, rfl, rfl, rfl⟩ := hv
    refine q_if_ne hJ (tgt := 33) dX11_ifInserted_26 (q := 29) rfl (by decide) (fun c3 => ?_) (fun c3 => ?_)
    · refine q_aload_n hJ dX11_ifInserted_33 (q := 34) rfl rfl (by first | rfl | exact isR_rr _) ?_
      refine q_iconst hJ (v := 0) dX11_ifInserted_34 (q := 35) rfl (by decide) ?_
      refine q_sipush hJ (v := 413) dX11_ifInserted_35 (q := 38) rfl (by decide) ?_
      refine q_callV hJ dX11_ifInserted_38 (q := 41) rfl (M_copies 0 413 (Or.inl ⟨rfl, rfl⟩) I R hFR) imX11_copies ln_X11_36 (by first | exact ka317 | exact ka318 | exact ka319 | exact ka320 | exact ka321 | exact ka322) (by decide) rfl rfl rfl rfl (Nat.le_of_ble_eq_true rfl) (by decide) (by decide) rfl rfl (fun rv gv Iv Rv hv => ?_)
      obtain ⟨rfl, rfl, rfl, rfl⟩ := hv
      have hB := H.beside
      refine q_aload_n hJ dX11_ifInserted_41 (q := 42) rfl rfl (by first | rfl | exact isR_rr _) ?_
      refine q_sipush hJ (v := 413) dX11_ifInserted_42 (q := 45) rfl (by decide) ?_
      refine q_iload_n hJ dX11_ifInserted_45 (q := 46) rfl rfl ?_
      refine q_iload_n hJ dX11_ifInserted_46 (q := 47) rfl rfl ?_
      refine q_iload_n hJ dX11_ifInserted_47 (q := 48) rfl rfl ?_
      refine q_iload hJ dX11_ifInserted_48 (q := 50) rfl rfl ?_
      refine q_callV hJ dX11_ifInserted_50 (q := 53) rfl (M_runsInsert 413 (by decide) k z o t A _ R hFR hB H.2.1 (insF_0 c1)) imX11_runsInsert ln_X11_138 (by first | exact ka317 | exact ka318 | exact ka319 | exact ka320 | exact ka321 | exact ka322) (by decide) rfl rfl rfl rfl (Nat.le_of_ble_eq_true rfl) (by decide) (by decide) rfl rfl (fun rv gv Iv Rv hv => ?_)
      obtain ⟨rfl, rfl, rfl, hk, hmS, hokS, e8, e9, e10, e11, e12⟩ := hv
      have hk2 := (kp_copy I).tr hk
      have H2 := H.kp hk2
      refine q_aload_n hJ dX11_ifInserted_53 (q := 54) rfl rfl (by first | rfl | exact isR_rr _) ?_
      refine q_iload hJ dX11_ifInserted_54 (q := 56) rfl rfl ?_
      refine q_callV hJ dX11_ifInserted_56 (q := 59) rfl (M_told w (XR 0 (insI k z o t) A) _ R hFR e8 e9 e10 e11 e12) imX11_told ln_X11_205 (by first | exact ka317 | exact ka318 | exact ka319 | exact ka320 | exact ka321 | exact ka322) (by decide) rfl rfl rfl rfl (Nat.le_of_ble_eq_true rfl) (by decide) (by decide) rfl rfl (fun rv gv Iv Rv hv => ?_)
      obtain ⟨rfl, rfl, rfl, rfl⟩ := hv
      refine q_iret hM dX11_ifInserted_59 rfl rfl ?_
      exact ⟨by rw [ifV, if_pos c1, if_neg c3], rfl, rfl, fun a ha => hk2.low a ha, H2⟩
    · refine q_sipush hJ (v := (-1002)) dX11_ifInserted_29 (q := 32) rfl (by decide) ?_
      refine q_iret hM dX11_ifInserted_32 rfl rfl ?_
      exact ⟨by rw [ifV, if_pos c1, if_pos c3], rfl, rfl, fun _ _ => rfl, H⟩
  · refine q_iload hJ dX11_ifInserted_16 (q := 18) rfl rfl ?_
    refine q_iret hM dX11_ifInserted_18 rfl rfl ?_
    exact ⟨by rw [ifV, if_neg c1], rfl, rfl, fun _ _ => rfl, H⟩

set_option maxRecDepth 100000 in
set_option maxHeartbeats 400000 in
theorem M_ifDel (k w : Int32) (A : AS) (hs : Nat → AS) (h : Nat) (sn : AS) (kp : Bool) (tx : Nat → Int32) (tn : Nat) (I : MI) (R : MR) (hFR : FR R) (H : MOD I A hs h sn kp tx tn) : Sp 9 0 0 mX11_ifDeleted [.ref 317, .int k, .int w] g0 I R (MoP (ifV (dltF A k) w (XR 2 (dltI A k) A)) I R (fun I' => MOD I' A hs h sn kp tx tn)) := by
  have hm0 := hFR.2.2.2.2.2.1
  have hm1 := hFR.2.2.2.2.2.2.1
  have hm3 := hFR.2.2.2.2.2.2.2.1
  have hm5 := hFR.2.2.2.2.2.2.2.2.1
  have hm7 := hFR.2.2.2.2.2.2.2.2.2
  have hR := H.1.1
  have ok := H.2.1.1
  refine Sp.on (by decide +kernel) rfl rfl (fun J hM => ?_)
  have hJ := hM.ok
  rcases hf : fK A k with _ | i
  · refine q_aload_n hJ dX11_ifDeleted_0 (q := 1) rfl rfl (by first | rfl | exact isR_rr _) ?_
    refine q_iconst hJ (v := 0) dX11_ifDeleted_1 (q := 2) rfl (by decide) ?_
    refine q_iload_n hJ dX11_ifDeleted_2 (q := 3) rfl rfl ?_
    refine q_callV hJ dX11_ifDeleted_3 (q := 6) rfl (M_rowOf I R 0 (aN A) k (by decide) hR.1 hR.2.1 hFR) imX11_rowOf ln_X11_54 (by first | exact ka317 | exact ka318 | exact ka319 | exact ka320 | exact ka321 | exact ka322) (by decide) rfl rfl rfl rfl (Nat.le_of_ble_eq_true rfl) (by decide) (by decide) rfl rfl (fun rv gv Iv Rv hv => ?_)
    obtain ⟨rfl, rfl, rfl, rfl⟩ := hv
    rw [hR.none hf, show rwI 0 none = -1 from rfl]
    refine q_if_ge hJ (tgt := 13) dX11_ifDeleted_6 (q := 9) rfl (by decide) (fun cr => absurd cr (by decide)) (fun _ => ?_)
    refine q_sipush hJ (v := (-1001)) dX11_ifDeleted_9 (q := 12) rfl (by decide) ?_
    refine q_iret hM dX11_ifDeleted_12 rfl rfl ?_
    exact ⟨by rw [ifV, dltF_n hf]; rfl, rfl, rfl, fun _ _ => rfl, H⟩
  · obtain ⟨j, hj, hm, he⟩ := hR.some ok hf
    have hj20 := hR.2.1
    have c1 := dltF_s hf
    refine q_aload_n hJ dX11_ifDeleted_0 (q := 1) rfl rfl (by first | rfl | exact isR_rr _) ?_
    refine q_iconst hJ (v := 0) dX11_ifDeleted_1 (q := 2) rfl (by decide) ?_
    refine q_iload_n hJ dX11_ifDeleted_2 (q := 3) rfl rfl ?_
    refine q_callV hJ dX11_ifDeleted_3 (q := 6) rfl (M_rowOf I R 0 (aN A) k (by decide) hR.1 hR.2.1 hFR) imX11_rowOf ln_X11_54 (by first | exact ka317 | exact ka318 | exact ka319 | exact ka320 | exact ka321 | exact ka322) (by decide) rfl rfl rfl rfl (Nat.le_of_ble_eq_true rfl) (by decide) (by decide) rfl rfl (fun rv gv Iv Rv hv => ?_)
    obtain ⟨rfl, rfl, rfl, rfl⟩ := hv
    rw [hm, show rwI 0 (some j) = nI (0 + 1 + 4 * j) from rfl]
    refine q_if_ge hJ (tgt := 13) dX11_ifDeleted_6 (q := 9) rfl (by decide) (fun _ => ?_) (fun cr => absurd (nI_pos' (by omega)) cr)
    refine q_iload_n hJ dX11_ifDeleted_13 (q := 14) rfl rfl ?_
    refine q_iconst hJ (v := 0) dX11_ifDeleted_14 (q := 15) rfl (by decide) ?_
    refine q_iconst hJ (v := 4) dX11_ifDeleted_15 (q := 16) rfl (by decide) ?_
    refine q_callS hJ dX11_ifDeleted_16 (q := 19) rfl (M_in w 0 4 I R) imX11_in ln_X11_25 rfl rfl rfl (Nat.le_of_ble_eq_true rfl) (by decide) (by decide) rfl rfl (fun rv gv Iv Rv hv => ?_)
    obtain ⟨rfl, rfl, rfl, rfl⟩ := hv
    refine q_if_ne hJ (tgt := 26) dX11_ifDeleted_19 (q := 22) rfl (by decide) (fun c3 => ?_) (fun c3 => ?_)
    · refine q_aload_n hJ dX11_ifDeleted_26 (q := 27) rfl rfl (by first | rfl | exact isR_rr _) ?_
      refine q_iconst hJ (v := 0) dX11_ifDeleted_27 (q := 28) rfl (by decide) ?_
      refine q_sipush hJ (v := 413) dX11_ifDeleted_28 (q := 31) rfl (by decide) ?_
      refine q_callV hJ dX11_ifDeleted_31 (q := 34) rfl (M_copies 0 413 (Or.inl ⟨rfl, rfl⟩) I R hFR) imX11_copies ln_X11_36 (by first | exact ka317 | exact ka318 | exact ka319 | exact ka320 | exact ka321 | exact ka322) (by decide) rfl rfl rfl rfl (Nat.le_of_ble_eq_true rfl) (by decide) (by decide) rfl rfl (fun rv gv Iv Rv hv => ?_)
      obtain ⟨rfl, rfl, rfl, rfl⟩ := hv
      have hB := H.beside
      refine q_aload_n hJ dX11_ifDeleted_34 (q := 35) rfl rfl (by first | rfl | exact isR_rr _) ?_
      refine q_sipush hJ (v := 413) dX11_ifDeleted_35 (q := 38) rfl (by decide) ?_
      refine q_iload_n hJ dX11_ifDeleted_38 (q := 39) rfl rfl ?_
      refine q_callV hJ dX11_ifDeleted_39 (q := 42) rfl (M_runsDelete 413 (by decide) k (dltI A k) A _ R hFR hB H.2.1 (dltF_0 c1)) imX11_runsDelete ln_X11_152 (by first | exact ka317 | exact ka318 | exact ka319 | exact ka320 | exact ka321 | exact ka322) (by decide) rfl rfl rfl rfl (Nat.le_of_ble_eq_true rfl) (by decide) (by decide) rfl rfl (fun rv gv Iv Rv hv => ?_)
      obtain ⟨rfl, rfl, rfl, hk, hmS, hokS, e8, e9, e10, e11, e12⟩ := hv
      have hk2 := (kp_copy I).tr hk
      have H2 := H.kp hk2
      refine q_aload_n hJ dX11_ifDeleted_42 (q := 43) rfl rfl (by first | rfl | exact isR_rr _) ?_
      refine q_iload_n hJ dX11_ifDeleted_43 (q := 44) rfl rfl ?_
      refine q_callV hJ dX11_ifDeleted_44 (q := 47) rfl (M_told w (XR 2 (dltI A k) A) _ R hFR e8 e9 e10 e11 e12) imX11_told ln_X11_205 (by first | exact ka317 | exact ka318 | exact ka319 | exact ka320 | exact ka321 | exact ka322) (by decide) rfl rfl rfl rfl (Nat.le_of_ble_eq_true rfl) (by decide) (by decide) rfl rfl (fun rv gv Iv Rv hv => ?_)
      obtain ⟨rfl, rfl, rfl, rfl⟩ := hv
      refine q_iret hM dX11_ifDeleted_47 rfl rfl ?_
      exact ⟨by rw [ifV, if_pos c1, if_neg c3], rfl, rfl, fun a ha => hk2.low a ha, H2⟩
    · refine q_sipush hJ (v := (-1002)) dX11_ifDeleted_22 (q := 25) rfl (by decide) ?_
      refine q_iret hM dX11_ifDeleted_25 rfl rfl ?_
      exact ⟨by rw [ifV, if_pos c1, if_pos c3], rfl, rfl, fun _ _ => rfl, H⟩

set_option maxRecDepth 100000 in
set_option maxHeartbeats 400000 in
theorem M_ifUpd (k f v w : Int32) (A : AS) (hs : Nat → AS) (h : Nat) (sn : AS) (kp : Bool) (tx : Nat → Int32) (tn : Nat) (I : MI) (R : MR) (hFR : FR R) (H : MOD I A hs h sn kp tx tn) : Sp 9 0 0 mX11_ifUpdated [.ref 317, .int k, .int f, .int v, .int w] g0 I R (MoP (ifU (updF A k f v) w (XR 1 (updI A k f v) A)) I R (fun I' => MOD I' A hs h sn kp tx tn)) := by
  have hm0 := hFR.2.2.2.2.2.1
  have hm1 := hFR.2.2.2.2.2.2.1
  have hm3 := hFR.2.2.2.2.2.2.2.1
  have hm5 := hFR.2.2.2.2.2.2.2.2.1
  have hm7 := hFR.2.2.2.2.2.2.2.2.2
  have hR := H.1.1
  have ok := H.2.1.1
  refine Sp.on (by decide +kernel) rfl rfl (fun J hM => ?_)
  have hJ := hM.ok
  refine q_aload_n hJ dX11_ifUpdated_0 (q := 1) rfl rfl (by first | rfl | exact isR_rr _) ?_
  refine q_iload_n hJ dX11_ifUpdated_1 (q := 2) rfl rfl ?_
  refine q_iload_n hJ dX11_ifUpdated_2 (q := 3) rfl rfl ?_
  refine q_iload_n hJ dX11_ifUpdated_3 (q := 4) rfl rfl ?_
  refine q_callV hJ dX11_ifUpdated_4 (q := 7) rfl (M_wnuHere k f v A I R hFR hR ok) imX11_whyNotUpdateHere ln_X11_146 (by first | exact ka317 | exact ka318 | exact ka319 | exact ka320 | exact ka321 | exact ka322) (by decide) rfl rfl rfl rfl (Nat.le_of_ble_eq_true rfl) (by decide) (by decide) rfl rfl (fun rv gv Iv Rv hv => ?_)
  obtain ⟨rfl, rfl, rfl, rfl⟩ := hv
  refine q_istore hJ dX11_ifUpdated_7 (q := 9) rfl (by decide) ?_
  refine q_iload hJ dX11_ifUpdated_9 (q := 11) rfl rfl ?_
  refine q_if_eq hJ (tgt := 25) dX11_ifUpdated_11 (q := 14) rfl (by decide) (fun c1 => ?_) (fun c1 => ?_)
  · refine q_iload hJ dX11_ifUpdated_25 (q := 27) rfl rfl ?_
    refine q_iconst hJ (v := 0) dX11_ifUpdated_27 (q := 28) rfl (by decide) ?_
    refine q_iconst hJ (v := 4) dX11_ifUpdated_28 (q := 29) rfl (by decide) ?_
    refine q_callS hJ dX11_ifUpdated_29 (q := 32) rfl (M_in w 0 4 I R) imX11_in ln_X11_25 rfl rfl rfl (Nat.le_of_ble_eq_true rfl) (by decide) (by decide) rfl rfl (fun rv gv Iv Rv hv => ?_)
    obtain ⟨rfl, rfl, rfl, rfl⟩ := hv
    refine q_if_eq hJ (tgt := 43) dX11_ifUpdated_32 (q := 35) rfl (by decide) (fun c3 => ?_) (fun c3 => ?_)
    · refine q_iload hJ dX11_ifUpdated_43 (q := 45) rfl rfl ?_
      refine q_iconst hJ (v := 0) dX11_ifUpdated_45 (q := 46) rfl (by decide) ?_
      refine q_iconst hJ (v := 4) dX11_ifUpdated_46 (q := 47) rfl (by decide) ?_
      refine q_callS hJ dX11_ifUpdated_47 (q := 50) rfl (M_in w 0 4 I R) imX11_in ln_X11_25 rfl rfl rfl (Nat.le_of_ble_eq_true rfl) (by decide) (by decide) rfl rfl (fun rv gv Iv Rv hv => ?_)
      obtain ⟨rfl, rfl, rfl, rfl⟩ := hv
      refine q_if_eq hJ (tgt := 59) dX11_ifUpdated_50 (q := 53) rfl (by decide) (fun c5 => ?_) (fun c5 => ?_)
      · refine q_sipush hJ (v := (-1002)) dX11_ifUpdated_59 (q := 62) rfl (by decide) ?_
        refine q_iret hM dX11_ifUpdated_62 rfl rfl ?_
        first
          | exact absurd c3 c5
          | exact absurd c5 c3
          | exact absurd (c1.symm.trans c4) (by decide)
          | exact ⟨congrArg (fun x => some (Value.int x)) (show (-1002 : Int32) = ifU (updF A k f v) w _ by unfold ifU; exact ((if_pos c1).trans (if_pos c3)).symm), rfl, rfl, fun _ _ => rfl, H⟩
          | exact ⟨congrArg (fun x => some (Value.int x)) (show (-1002 : Int32) = ifU (updF A k f v) w _ by unfold ifU; exact ((if_neg c1).trans ((if_pos c2).trans (if_pos c3))).symm), rfl, rfl, fun _ _ => rfl, H⟩
          | exact ⟨congrArg (fun x => some (Value.int x)) (show (-1006 : Int32) = ifU (updF A k f v) w _ by unfold ifU; exact ((if_neg c1).trans ((if_pos c2).trans (if_neg c3))).symm), rfl, rfl, fun _ _ => rfl, H⟩
      · refine q_sipush hJ (v := (-1006)) dX11_ifUpdated_53 (q := 56) rfl (by decide) ?_
        refine q_goto hJ (tgt := 62) dX11_ifUpdated_56 (by decide) ?_
        refine q_iret hM dX11_ifUpdated_62 rfl rfl ?_
        first
          | exact absurd c3 c5
          | exact absurd c5 c3
          | exact absurd (c1.symm.trans c4) (by decide)
          | exact ⟨congrArg (fun x => some (Value.int x)) (show (-1002 : Int32) = ifU (updF A k f v) w _ by unfold ifU; exact ((if_pos c1).trans (if_pos c3)).symm), rfl, rfl, fun _ _ => rfl, H⟩
          | exact ⟨congrArg (fun x => some (Value.int x)) (show (-1002 : Int32) = ifU (updF A k f v) w _ by unfold ifU; exact ((if_neg c1).trans ((if_pos c2).trans (if_pos c3))).symm), rfl, rfl, fun _ _ => rfl, H⟩
          | exact ⟨congrArg (fun x => some (Value.int x)) (show (-1006 : Int32) = ifU (updF A k f v) w _ by unfold ifU; exact ((if_neg c1).trans ((if_pos c2).trans (if_neg c3))).symm), rfl, rfl, fun _ _ => rfl, H⟩
    · refine q_iload hJ dX11_ifUpdated_35 (q := 37) rfl rfl ?_
      refine q_sipush hJ (v := (-1006)) dX11_ifUpdated_37 (q := 40) rfl (by decide) ?_
      refine q_icmp_ne hJ (tgt := 63) dX11_ifUpdated_40 (q := 43) rfl (by decide) (fun c4 => ?_) (fun c4 => ?_)
      · refine q_aload_n hJ dX11_ifUpdated_63 (q := 64) rfl rfl (by first | rfl | exact isR_rr _) ?_
        refine q_iconst hJ (v := 0) dX11_ifUpdated_64 (q := 65) rfl (by decide) ?_
        refine q_sipush hJ (v := 413) dX11_ifUpdated_65 (q := 68) rfl (by decide) ?_
        refine q_callV hJ dX11_ifUpdated_68 (q := 71) rfl (M_copies 0 413 (Or.inl ⟨rfl, rfl⟩) I R hFR) imX11_copies ln_X11_36 (by first | exact ka317 | exact ka318 | exact ka319 | exact ka320 | exact ka321 | exact ka322) (by decide) rfl rfl rfl rfl (Nat.le_of_ble_eq_true rfl) (by decide) (by decide) rfl rfl (fun rv gv Iv Rv hv => ?_)
        obtain ⟨rfl, rfl, rfl, rfl⟩ := hv
        have hB := H.beside
        refine q_aload_n hJ dX11_ifUpdated_71 (q := 72) rfl rfl (by first | rfl | exact isR_rr _) ?_
        refine q_sipush hJ (v := 413) dX11_ifUpdated_72 (q := 75) rfl (by decide) ?_
        refine q_iload_n hJ dX11_ifUpdated_75 (q := 76) rfl rfl ?_
        refine q_iload_n hJ dX11_ifUpdated_76 (q := 77) rfl rfl ?_
        refine q_iload_n hJ dX11_ifUpdated_77 (q := 78) rfl rfl ?_
        have c1 : updF A k f v = 0 := by first | exact c1 | exact absurd c2 c4
        obtain ⟨f', hf3, rfl⟩ := (updF_0 c1).2
        refine q_callV hJ dX11_ifUpdated_78 (q := 81) rfl (M_runsUpdate 413 f' hf3 (by decide) k v (updI A k (nI f') v) A _ R hFR hB H.2.1 (updF_0 c1).1) imX11_runsUpdate ln_X11_149 (by first | exact ka317 | exact ka318 | exact ka319 | exact ka320 | exact ka321 | exact ka322) (by decide) rfl rfl rfl rfl (Nat.le_of_ble_eq_true rfl) (by decide) (by decide) rfl rfl (fun rv gv Iv Rv hv => ?_)
        obtain ⟨rfl, rfl, rfl, hk, hmS, hokS, e8, e9, e10, e11, e12⟩ := hv
        have hk2 := (kp_copy I).tr hk
        have H2 := H.kp hk2
        refine q_aload_n hJ dX11_ifUpdated_81 (q := 82) rfl rfl (by first | rfl | exact isR_rr _) ?_
        refine q_iload hJ dX11_ifUpdated_82 (q := 84) rfl rfl ?_
        refine q_callV hJ dX11_ifUpdated_84 (q := 87) rfl (M_told w (XR 1 (updI A k (nI f') v) A) _ R hFR e8 e9 e10 e11 e12) imX11_told ln_X11_205 (by first | exact ka317 | exact ka318 | exact ka319 | exact ka320 | exact ka321 | exact ka322) (by decide) rfl rfl rfl rfl (Nat.le_of_ble_eq_true rfl) (by decide) (by decide) rfl rfl (fun rv gv Iv Rv hv => ?_)
        obtain ⟨rfl, rfl, rfl, rfl⟩ := hv
        refine q_iret hM dX11_ifUpdated_87 rfl rfl ?_
        exact ⟨by rw [ifU, if_pos c1, if_neg c3], rfl, rfl, fun a ha => hk2.low a ha, H2⟩
      · refine q_iload hJ dX11_ifUpdated_43 (q := 45) rfl rfl ?_
        refine q_iconst hJ (v := 0) dX11_ifUpdated_45 (q := 46) rfl (by decide) ?_
        refine q_iconst hJ (v := 4) dX11_ifUpdated_46 (q := 47) rfl (by decide) ?_
        refine q_callS hJ dX11_ifUpdated_47 (q := 50) rfl (M_in w 0 4 I R) imX11_in ln_X11_25 rfl rfl rfl (Nat.le_of_ble_eq_true rfl) (by decide) (by decide) rfl rfl (fun rv gv Iv Rv hv => ?_)
        obtain ⟨rfl, rfl, rfl, rfl⟩ := hv
        refine q_if_eq hJ (tgt := 59) dX11_ifUpdated_50 (q := 53) rfl (by decide) (fun c5 => ?_) (fun c5 => ?_)
        · refine q_sipush hJ (v := (-1002)) dX11_ifUpdated_59 (q := 62) rfl (by decide) ?_
          refine q_iret hM dX11_ifUpdated_62 rfl rfl ?_
          first
            | exact absurd c3 c5
            | exact absurd c5 c3
            | exact absurd (c1.symm.trans c4) (by decide)
            | exact ⟨congrArg (fun x => some (Value.int x)) (show (-1002 : Int32) = ifU (updF A k f v) w _ by unfold ifU; exact ((if_pos c1).trans (if_pos c3)).symm), rfl, rfl, fun _ _ => rfl, H⟩
            | exact ⟨congrArg (fun x => some (Value.int x)) (show (-1002 : Int32) = ifU (updF A k f v) w _ by unfold ifU; exact ((if_neg c1).trans ((if_pos c2).trans (if_pos c3))).symm), rfl, rfl, fun _ _ => rfl, H⟩
            | exact ⟨congrArg (fun x => some (Value.int x)) (show (-1006 : Int32) = ifU (updF A k f v) w _ by unfold ifU; exact ((if_neg c1).trans ((if_pos c2).trans (if_neg c3))).symm), rfl, rfl, fun _ _ => rfl, H⟩
        · refine q_sipush hJ (v := (-1006)) dX11_ifUpdated_53 (q := 56) rfl (by decide) ?_
          refine q_goto hJ (tgt := 62) dX11_ifUpdated_56 (by decide) ?_
          refine q_iret hM dX11_ifUpdated_62 rfl rfl ?_
          first
            | exact absurd c3 c5
            | exact absurd c5 c3
            | exact absurd (c1.symm.trans c4) (by decide)
            | exact ⟨congrArg (fun x => some (Value.int x)) (show (-1002 : Int32) = ifU (updF A k f v) w _ by unfold ifU; exact ((if_pos c1).trans (if_pos c3)).symm), rfl, rfl, fun _ _ => rfl, H⟩
            | exact ⟨congrArg (fun x => some (Value.int x)) (show (-1002 : Int32) = ifU (updF A k f v) w _ by unfold ifU; exact ((if_neg c1).trans ((if_pos c2).trans (if_pos c3))).symm), rfl, rfl, fun _ _ => rfl, H⟩
            | exact ⟨congrArg (fun x => some (Value.int x)) (show (-1006 : Int32) = ifU (updF A k f v) w _ by unfold ifU; exact ((if_neg c1).trans ((if_pos c2).trans (if_neg c3))).symm), rfl, rfl, fun _ _ => rfl, H⟩
  · refine q_iload hJ dX11_ifUpdated_14 (q := 16) rfl rfl ?_
    refine q_sipush hJ (v := (-1006)) dX11_ifUpdated_16 (q := 19) rfl (by decide) ?_
    refine q_icmp_eq hJ (tgt := 25) dX11_ifUpdated_19 (q := 22) rfl (by decide) (fun c2 => ?_) (fun c2 => ?_)
    · refine q_iload hJ dX11_ifUpdated_25 (q := 27) rfl rfl ?_
      refine q_iconst hJ (v := 0) dX11_ifUpdated_27 (q := 28) rfl (by decide) ?_
      refine q_iconst hJ (v := 4) dX11_ifUpdated_28 (q := 29) rfl (by decide) ?_
      refine q_callS hJ dX11_ifUpdated_29 (q := 32) rfl (M_in w 0 4 I R) imX11_in ln_X11_25 rfl rfl rfl (Nat.le_of_ble_eq_true rfl) (by decide) (by decide) rfl rfl (fun rv gv Iv Rv hv => ?_)
      obtain ⟨rfl, rfl, rfl, rfl⟩ := hv
      refine q_if_eq hJ (tgt := 43) dX11_ifUpdated_32 (q := 35) rfl (by decide) (fun c3 => ?_) (fun c3 => ?_)
      · refine q_iload hJ dX11_ifUpdated_43 (q := 45) rfl rfl ?_
        refine q_iconst hJ (v := 0) dX11_ifUpdated_45 (q := 46) rfl (by decide) ?_
        refine q_iconst hJ (v := 4) dX11_ifUpdated_46 (q := 47) rfl (by decide) ?_
        refine q_callS hJ dX11_ifUpdated_47 (q := 50) rfl (M_in w 0 4 I R) imX11_in ln_X11_25 rfl rfl rfl (Nat.le_of_ble_eq_true rfl) (by decide) (by decide) rfl rfl (fun rv gv Iv Rv hv => ?_)
        obtain ⟨rfl, rfl, rfl, rfl⟩ := hv
        refine q_if_eq hJ (tgt := 59) dX11_ifUpdated_50 (q := 53) rfl (by decide) (fun c5 => ?_) (fun c5 => ?_)
        · refine q_sipush hJ (v := (-1002)) dX11_ifUpdated_59 (q := 62) rfl (by decide) ?_
          refine q_iret hM dX11_ifUpdated_62 rfl rfl ?_
          first
            | exact absurd c3 c5
            | exact absurd c5 c3
            | exact absurd (c1.symm.trans c4) (by decide)
            | exact ⟨congrArg (fun x => some (Value.int x)) (show (-1002 : Int32) = ifU (updF A k f v) w _ by unfold ifU; exact ((if_pos c1).trans (if_pos c3)).symm), rfl, rfl, fun _ _ => rfl, H⟩
            | exact ⟨congrArg (fun x => some (Value.int x)) (show (-1002 : Int32) = ifU (updF A k f v) w _ by unfold ifU; exact ((if_neg c1).trans ((if_pos c2).trans (if_pos c3))).symm), rfl, rfl, fun _ _ => rfl, H⟩
            | exact ⟨congrArg (fun x => some (Value.int x)) (show (-1006 : Int32) = ifU (updF A k f v) w _ by unfold ifU; exact ((if_neg c1).trans ((if_pos c2).trans (if_neg c3))).symm), rfl, rfl, fun _ _ => rfl, H⟩
        · refine q_sipush hJ (v := (-1006)) dX11_ifUpdated_53 (q := 56) rfl (by decide) ?_
          refine q_goto hJ (tgt := 62) dX11_ifUpdated_56 (by decide) ?_
          refine q_iret hM dX11_ifUpdated_62 rfl rfl ?_
          first
            | exact absurd c3 c5
            | exact absurd c5 c3
            | exact absurd (c1.symm.trans c4) (by decide)
            | exact ⟨congrArg (fun x => some (Value.int x)) (show (-1002 : Int32) = ifU (updF A k f v) w _ by unfold ifU; exact ((if_pos c1).trans (if_pos c3)).symm), rfl, rfl, fun _ _ => rfl, H⟩
            | exact ⟨congrArg (fun x => some (Value.int x)) (show (-1002 : Int32) = ifU (updF A k f v) w _ by unfold ifU; exact ((if_neg c1).trans ((if_pos c2).trans (if_pos c3))).symm), rfl, rfl, fun _ _ => rfl, H⟩
            | exact ⟨congrArg (fun x => some (Value.int x)) (show (-1006 : Int32) = ifU (updF A k f v) w _ by unfold ifU; exact ((if_neg c1).trans ((if_pos c2).trans (if_neg c3))).symm), rfl, rfl, fun _ _ => rfl, H⟩
      · refine q_iload hJ dX11_ifUpdated_35 (q := 37) rfl rfl ?_
        refine q_sipush hJ (v := (-1006)) dX11_ifUpdated_37 (q := 40) rfl (by decide) ?_
        refine q_icmp_ne hJ (tgt := 63) dX11_ifUpdated_40 (q := 43) rfl (by decide) (fun c4 => ?_) (fun c4 => ?_)
        · refine q_aload_n hJ dX11_ifUpdated_63 (q := 64) rfl rfl (by first | rfl | exact isR_rr _) ?_
          refine q_iconst hJ (v := 0) dX11_ifUpdated_64 (q := 65) rfl (by decide) ?_
          refine q_sipush hJ (v := 413) dX11_ifUpdated_65 (q := 68) rfl (by decide) ?_
          refine q_callV hJ dX11_ifUpdated_68 (q := 71) rfl (M_copies 0 413 (Or.inl ⟨rfl, rfl⟩) I R hFR) imX11_copies ln_X11_36 (by first | exact ka317 | exact ka318 | exact ka319 | exact ka320 | exact ka321 | exact ka322) (by decide) rfl rfl rfl rfl (Nat.le_of_ble_eq_true rfl) (by decide) (by decide) rfl rfl (fun rv gv Iv Rv hv => ?_)
          obtain ⟨rfl, rfl, rfl, rfl⟩ := hv
          have hB := H.beside
          refine q_aload_n hJ dX11_ifUpdated_71 (q := 72) rfl rfl (by first | rfl | exact isR_rr _) ?_
          refine q_sipush hJ (v := 413) dX11_ifUpdated_72 (q := 75) rfl (by decide) ?_
          refine q_iload_n hJ dX11_ifUpdated_75 (q := 76) rfl rfl ?_
          refine q_iload_n hJ dX11_ifUpdated_76 (q := 77) rfl rfl ?_
          refine q_iload_n hJ dX11_ifUpdated_77 (q := 78) rfl rfl ?_
          have c1 : updF A k f v = 0 := by first | exact c1 | exact absurd c2 c4
          obtain ⟨f', hf3, rfl⟩ := (updF_0 c1).2
          refine q_callV hJ dX11_ifUpdated_78 (q := 81) rfl (M_runsUpdate 413 f' hf3 (by decide) k v (updI A k (nI f') v) A _ R hFR hB H.2.1 (updF_0 c1).1) imX11_runsUpdate ln_X11_149 (by first | exact ka317 | exact ka318 | exact ka319 | exact ka320 | exact ka321 | exact ka322) (by decide) rfl rfl rfl rfl (Nat.le_of_ble_eq_true rfl) (by decide) (by decide) rfl rfl (fun rv gv Iv Rv hv => ?_)
          obtain ⟨rfl, rfl, rfl, hk, hmS, hokS, e8, e9, e10, e11, e12⟩ := hv
          have hk2 := (kp_copy I).tr hk
          have H2 := H.kp hk2
          refine q_aload_n hJ dX11_ifUpdated_81 (q := 82) rfl rfl (by first | rfl | exact isR_rr _) ?_
          refine q_iload hJ dX11_ifUpdated_82 (q := 84) rfl rfl ?_
          refine q_callV hJ dX11_ifUpdated_84 (q := 87) rfl (M_told w (XR 1 (updI A k (nI f') v) A) _ R hFR e8 e9 e10 e11 e12) imX11_told ln_X11_205 (by first | exact ka317 | exact ka318 | exact ka319 | exact ka320 | exact ka321 | exact ka322) (by decide) rfl rfl rfl rfl (Nat.le_of_ble_eq_true rfl) (by decide) (by decide) rfl rfl (fun rv gv Iv Rv hv => ?_)
          obtain ⟨rfl, rfl, rfl, rfl⟩ := hv
          refine q_iret hM dX11_ifUpdated_87 rfl rfl ?_
          exact ⟨by rw [ifU, if_pos c1, if_neg c3], rfl, rfl, fun a ha => hk2.low a ha, H2⟩
        · refine q_iload hJ dX11_ifUpdated_43 (q := 45) rfl rfl ?_
          refine q_iconst hJ (v := 0) dX11_ifUpdated_45 (q := 46) rfl (by decide) ?_
          refine q_iconst hJ (v := 4) dX11_ifUpdated_46 (q := 47) rfl (by decide) ?_
          refine q_callS hJ dX11_ifUpdated_47 (q := 50) rfl (M_in w 0 4 I R) imX11_in ln_X11_25 rfl rfl rfl (Nat.le_of_ble_eq_true rfl) (by decide) (by decide) rfl rfl (fun rv gv Iv Rv hv => ?_)
          obtain ⟨rfl, rfl, rfl, rfl⟩ := hv
          refine q_if_eq hJ (tgt := 59) dX11_ifUpdated_50 (q := 53) rfl (by decide) (fun c5 => ?_) (fun c5 => ?_)
          · refine q_sipush hJ (v := (-1002)) dX11_ifUpdated_59 (q := 62) rfl (by decide) ?_
            refine q_iret hM dX11_ifUpdated_62 rfl rfl ?_
            first
              | exact absurd c3 c5
              | exact absurd c5 c3
              | exact absurd (c1.symm.trans c4) (by decide)
              | exact ⟨congrArg (fun x => some (Value.int x)) (show (-1002 : Int32) = ifU (updF A k f v) w _ by unfold ifU; exact ((if_pos c1).trans (if_pos c3)).symm), rfl, rfl, fun _ _ => rfl, H⟩
              | exact ⟨congrArg (fun x => some (Value.int x)) (show (-1002 : Int32) = ifU (updF A k f v) w _ by unfold ifU; exact ((if_neg c1).trans ((if_pos c2).trans (if_pos c3))).symm), rfl, rfl, fun _ _ => rfl, H⟩
              | exact ⟨congrArg (fun x => some (Value.int x)) (show (-1006 : Int32) = ifU (updF A k f v) w _ by unfold ifU; exact ((if_neg c1).trans ((if_pos c2).trans (if_neg c3))).symm), rfl, rfl, fun _ _ => rfl, H⟩
          · refine q_sipush hJ (v := (-1006)) dX11_ifUpdated_53 (q := 56) rfl (by decide) ?_
            refine q_goto hJ (tgt := 62) dX11_ifUpdated_56 (by decide) ?_
            refine q_iret hM dX11_ifUpdated_62 rfl rfl ?_
            first
              | exact absurd c3 c5
              | exact absurd c5 c3
              | exact absurd (c1.symm.trans c4) (by decide)
              | exact ⟨congrArg (fun x => some (Value.int x)) (show (-1002 : Int32) = ifU (updF A k f v) w _ by unfold ifU; exact ((if_pos c1).trans (if_pos c3)).symm), rfl, rfl, fun _ _ => rfl, H⟩
              | exact ⟨congrArg (fun x => some (Value.int x)) (show (-1002 : Int32) = ifU (updF A k f v) w _ by unfold ifU; exact ((if_neg c1).trans ((if_pos c2).trans (if_pos c3))).symm), rfl, rfl, fun _ _ => rfl, H⟩
              | exact ⟨congrArg (fun x => some (Value.int x)) (show (-1006 : Int32) = ifU (updF A k f v) w _ by unfold ifU; exact ((if_neg c1).trans ((if_pos c2).trans (if_neg c3))).symm), rfl, rfl, fun _ _ => rfl, H⟩
    · refine q_iload hJ dX11_ifUpdated_22 (q := 24) rfl rfl ?_
      refine q_iret hM dX11_ifUpdated_24 rfl rfl ?_
      exact ⟨by rw [ifU, if_neg c1, if_neg c2], rfl, rfl, fun _ _ => rfl, H⟩

