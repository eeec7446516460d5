/-! THE REFERENCE: its face, sixth part: look and ask -/
section S40
variable {μ : gM} {Q : Option Value → gM → Prop} {P A U L T N M B k r : Nat} {i c a w z v x y o s : Int32}
theorem s_X11_mostAlike {s : Int32} (hQ : Q (some (.int (nI (mAk (mrd μ 74) s)))) μ) : SPC 1 MX11_mostAlike [.ref 63, .int s] μ Q := by
  generalize hc : (fun k => mCn (fun q => mHas s (nI k) && mHas s (nI q) && decide (mrd μ 74 k = mrd μ 74 q))) = cn
  have hcn : ∀ k, cn k = mCn (fun q => mHas s (nI k) && mHas s (nI q) && decide (mrd μ 74 k = mrd μ 74 q)) := fun k => by rw [← hc]
  have hcl : ∀ k n, cn k n ≤ n := fun k n => by rw [hcn]; exact mCn_le _ n
  have hA : mAk (mrd μ 74) s = mMx (fun k => cn k 6) 6 := by rw [mAk, ← hc]
  have hml : ∀ n, mMx (fun k => cn k 6) n ≤ 6 := fun n => mMx_le (fun k _ => hcl k 6)
  rw [hA] at hQ
  have out : ∀ n k, 6 - k < n → k ≤ 6 → GG 1 MX11_mostAlike 4 [(3, .int (nI k)), (2, .int (nI (mMx (fun k => cn k 6) k))), (0, .ref 63), (1, .int s)] [] μ Q := by
    intro n
    induction n with
    | zero => intro k h; omega
    | succ n ih =>
      intro k hn hk
      have inn : ∀ m j, 6 - j < m → j ≤ 6 → k < 6 → GG 1 MX11_mostAlike 16 [(5, .int (nI j)), (4, .int (nI (cn k j))), (3, .int (nI k)), (2, .int (nI (mMx (fun k => cn k 6) k))), (0, .ref 63), (1, .int s)] [] μ Q := by
        intro m
        induction m with
        | zero => intro j h; omega
        | succ m ihm =>
          intro j hm hj hk6
          have h1 := hml k
          have h2 := hcl k j
          have z0 : ∀ t, nI t + 0 = nI t := fun t => nI_add t 0
          refine GG.iload e_X11_mostAlike_16 0 rfl ?_
          refine GG.bipush (v := 6) e_X11_mostAlike_18 rfl ?_
          refine GG.icmp_ge (tgt := 72) e_X11_mostAlike_20 rfl (fun h20 => ?_) (fun h20 => ?_)
          · skip
            have e := nle (a := 6) h20 (by omega) (by omega)
            have e2 : j = 6 := by omega
            subst e2
            refine GG.iload e_X11_mostAlike_72 1 rfl ?_
            refine GG.iload_n e_X11_mostAlike_74 (i := 2) rfl 3 rfl ?_
            refine GG.icmp_le (tgt := 83) e_X11_mostAlike_75 rfl (fun h75 => ?_) (fun h75 => ?_)
            · skip
              have e5 := nle h75 (by omega) (by have := hcl k 6; omega)
              refine GG.iload_n e_X11_mostAlike_83 (i := 2) rfl 3 rfl ?_
              refine GG.istore_n e_X11_mostAlike_84 (i := 2) rfl (Nat.le_of_ble_eq_true rfl) (ls' := [(2, .int _), (5, .int _), (4, .int _), (3, .int _), (0, .ref _), (1, .int _)]) rfl ?_
              refine GG.iinc e_X11_mostAlike_85 3 rfl (v := _) (by first | exact nI_s _ | exact nI_d _ | rfl) (Nat.le_of_ble_eq_true rfl) (ls' := [(3, .int _), (2, .int _), (5, .int _), (4, .int _), (0, .ref _), (1, .int _)]) rfl ?_
              refine GG.goto (tgt := 4) e_X11_mostAlike_88 rfl ?_
              refine GG.perm [0, 1, 4, 5] rfl ?_
              have g := ih (k + 1) (by omega) (by omega)
              rw [mMx] at g
              first | (rw [Nat.max_eq_left (by omega)] at g; exact g) | (rw [Nat.max_eq_right (by omega)] at g; exact g)
            · skip
              have e5 := nnle h75 (by have := hcl k 6; omega) (by omega)
              refine GG.iload e_X11_mostAlike_78 1 rfl ?_
              refine GG.goto (tgt := 84) e_X11_mostAlike_80 rfl ?_
              refine GG.istore_n e_X11_mostAlike_84 (i := 2) rfl (Nat.le_of_ble_eq_true rfl) (ls' := [(2, .int _), (5, .int _), (4, .int _), (3, .int _), (0, .ref _), (1, .int _)]) rfl ?_
              refine GG.iinc e_X11_mostAlike_85 3 rfl (v := _) (by first | exact nI_s _ | exact nI_d _ | rfl) (Nat.le_of_ble_eq_true rfl) (ls' := [(3, .int _), (2, .int _), (5, .int _), (4, .int _), (0, .ref _), (1, .int _)]) rfl ?_
              refine GG.goto (tgt := 4) e_X11_mostAlike_88 rfl ?_
              refine GG.perm [0, 1, 4, 5] rfl ?_
              have g := ih (k + 1) (by omega) (by omega)
              rw [mMx] at g
              first | (rw [Nat.max_eq_left (by omega)] at g; exact g) | (rw [Nat.max_eq_right (by omega)] at g; exact g)
          · skip
            have e := nnle (a := 6) h20 (by omega) (by omega)
            refine GG.iload e_X11_mostAlike_23 1 rfl ?_
            refine GG.iload_n e_X11_mostAlike_25 (i := 1) rfl 5 rfl ?_
            refine GG.iload_n e_X11_mostAlike_26 (i := 3) rfl 2 rfl ?_
            refine GG.callS (d' := 0) (as := [.int _, .int _]) e_X11_mostAlike_27 ml_X11_139 mf_X11_has ms_X11_has rfl (by decide) (Nat.le_of_ble_eq_true rfl) rfl ?_
            refine s_X11_has ?_
            refine GG.if_eq (tgt := 62) e_X11_mostAlike_30 rfl (fun h30 => ?_) (fun h30 => ?_)
            · skip
              rw [bI_0] at h30
              have hy : cn k (j + 1) = cn k j := by rw [hcn, mCn, h30]; simp
              refine GG.iconst (v := 0) e_X11_mostAlike_62 rfl ?_
              refine GG.iadd e_X11_mostAlike_63 ?_
              refine GG.istore e_X11_mostAlike_64 (Nat.le_of_ble_eq_true rfl) (ls' := [(4, .int _), (5, .int _), (3, .int _), (2, .int _), (0, .ref _), (1, .int _)]) rfl ?_
              refine GG.iinc e_X11_mostAlike_66 1 rfl (v := _) (by first | exact nI_s _ | exact nI_d _ | rfl) (Nat.le_of_ble_eq_true rfl) (ls' := [(5, .int _), (4, .int _), (3, .int _), (2, .int _), (0, .ref _), (1, .int _)]) rfl ?_
              refine GG.goto (tgt := 16) e_X11_mostAlike_69 rfl ?_
              have g := ihm (j + 1) (by omega) (by omega) hk6
              rw [hy] at g
              first | exact g | (rw [z0]; exact g) | (rw [nI_1]; exact g)
            · skip
              rw [bI_0, Bool.not_eq_false] at h30
              refine GG.iload_n e_X11_mostAlike_33 (i := 1) rfl 5 rfl ?_
              refine GG.iload e_X11_mostAlike_34 0 rfl ?_
              refine GG.callS (d' := 0) (as := [.int _, .int _]) e_X11_mostAlike_36 ml_X11_139 mf_X11_has ms_X11_has rfl (by decide) (Nat.le_of_ble_eq_true rfl) rfl ?_
              refine s_X11_has ?_
              refine GG.if_eq (tgt := 62) e_X11_mostAlike_39 rfl (fun h39 => ?_) (fun h39 => ?_)
              · skip
                rw [bI_0] at h39
                have hy : cn k (j + 1) = cn k j := by rw [hcn, mCn, h39]; simp
                refine GG.iconst (v := 0) e_X11_mostAlike_62 rfl ?_
                refine GG.iadd e_X11_mostAlike_63 ?_
                refine GG.istore e_X11_mostAlike_64 (Nat.le_of_ble_eq_true rfl) (ls' := [(4, .int _), (5, .int _), (3, .int _), (2, .int _), (0, .ref _), (1, .int _)]) rfl ?_
                refine GG.iinc e_X11_mostAlike_66 1 rfl (v := _) (by first | exact nI_s _ | exact nI_d _ | rfl) (Nat.le_of_ble_eq_true rfl) (ls' := [(5, .int _), (4, .int _), (3, .int _), (2, .int _), (0, .ref _), (1, .int _)]) rfl ?_
                refine GG.goto (tgt := 16) e_X11_mostAlike_69 rfl ?_
                have g := ihm (j + 1) (by omega) (by omega) hk6
                rw [hy] at g
                first | exact g | (rw [z0]; exact g) | (rw [nI_1]; exact g)
              · skip
                rw [bI_0, Bool.not_eq_false] at h39
                refine GG.aload_n e_X11_mostAlike_42 (i := 0) rfl 4 rfl ?_
                refine GG.getR (b := 74) e_X11_mostAlike_43 fl_X11_45 (sf_X11_20 i_X11_63) ?_
                refine GG.iload_n e_X11_mostAlike_46 (i := 3) rfl 2 rfl ?_
                refine GG.ialoadE (k := k) e_X11_mostAlike_47 (sa_X11_20 i_X11_63) (rfl) (by omega) (Nat.le_of_ble_eq_true rfl) ?_
                refine GG.aload_n e_X11_mostAlike_48 (i := 0) rfl 4 rfl ?_
                refine GG.getR (b := 74) e_X11_mostAlike_49 fl_X11_45 (sf_X11_20 i_X11_63) ?_
                refine GG.iload e_X11_mostAlike_52 0 rfl ?_
                refine GG.ialoadE (k := j) e_X11_mostAlike_54 (sa_X11_20 i_X11_63) (rfl) (by omega) (Nat.le_of_ble_eq_true rfl) ?_
                refine GG.icmp_ne (tgt := 62) e_X11_mostAlike_55 rfl (fun h55 => ?_) (fun h55 => ?_)
                · skip
                  have hy : cn k (j + 1) = cn k j := by rw [hcn, mCn, decide_eq_false h55]; simp
                  refine GG.iconst (v := 0) e_X11_mostAlike_62 rfl ?_
                  refine GG.iadd e_X11_mostAlike_63 ?_
                  refine GG.istore e_X11_mostAlike_64 (Nat.le_of_ble_eq_true rfl) (ls' := [(4, .int _), (5, .int _), (3, .int _), (2, .int _), (0, .ref _), (1, .int _)]) rfl ?_
                  refine GG.iinc e_X11_mostAlike_66 1 rfl (v := _) (by first | exact nI_s _ | exact nI_d _ | rfl) (Nat.le_of_ble_eq_true rfl) (ls' := [(5, .int _), (4, .int _), (3, .int _), (2, .int _), (0, .ref _), (1, .int _)]) rfl ?_
                  refine GG.goto (tgt := 16) e_X11_mostAlike_69 rfl ?_
                  have g := ihm (j + 1) (by omega) (by omega) hk6
                  rw [hy] at g
                  first | exact g | (rw [z0]; exact g) | (rw [nI_1]; exact g)
                · skip
                  have hy : cn k (j + 1) = cn k j + 1 := by rw [hcn, mCn, decide_eq_true h55, h30, h39]; simp
                  refine GG.iconst (v := 1) e_X11_mostAlike_58 rfl ?_
                  refine GG.goto (tgt := 63) e_X11_mostAlike_59 rfl ?_
                  refine GG.iadd e_X11_mostAlike_63 ?_
                  refine GG.istore e_X11_mostAlike_64 (Nat.le_of_ble_eq_true rfl) (ls' := [(4, .int _), (5, .int _), (3, .int _), (2, .int _), (0, .ref _), (1, .int _)]) rfl ?_
                  refine GG.iinc e_X11_mostAlike_66 1 rfl (v := _) (by first | exact nI_s _ | exact nI_d _ | rfl) (Nat.le_of_ble_eq_true rfl) (ls' := [(5, .int _), (4, .int _), (3, .int _), (2, .int _), (0, .ref _), (1, .int _)]) rfl ?_
                  refine GG.goto (tgt := 16) e_X11_mostAlike_69 rfl ?_
                  have g := ihm (j + 1) (by omega) (by omega) hk6
                  rw [hy] at g
                  first | exact g | (rw [z0]; exact g) | (rw [nI_1]; exact g)
      refine GG.iload_n e_X11_mostAlike_4 (i := 3) rfl 0 rfl ?_
      refine GG.bipush (v := 6) e_X11_mostAlike_5 rfl ?_
      refine GG.icmp_ge (tgt := 91) e_X11_mostAlike_7 rfl (fun h7 => ?_) (fun h7 => ?_)
      · skip
        have e := nle (a := 6) h7 (by omega) (by omega)
        have e2 : k = 6 := by omega
        subst e2
        refine GG.iload_n e_X11_mostAlike_91 (i := 2) rfl 1 rfl ?_
        refine GG.iret e_X11_mostAlike_92 rfl rfl ?_
        exact hQ
      · skip
        have e := nnle (a := 6) h7 (by omega) (by omega)
        refine GG.iconst (v := 0) e_X11_mostAlike_10 rfl ?_
        refine GG.istore e_X11_mostAlike_11 (Nat.le_of_ble_eq_true rfl) (ls' := [(4, .int _), (3, .int _), (2, .int _), (0, .ref _), (1, .int _)]) rfl ?_
        refine GG.iconst (v := 0) e_X11_mostAlike_13 rfl ?_
        refine GG.istore e_X11_mostAlike_14 (Nat.le_of_ble_eq_true rfl) (ls' := [(5, .int _), (4, .int _), (3, .int _), (2, .int _), (0, .ref _), (1, .int _)]) rfl ?_
        have z := inn 7 0 (by omega) (by omega) e
        rw [show cn k 0 = 0 by rw [hcn]; rfl] at z
        exact z
  refine SPC.of (by decide +kernel) (Nat.le_of_ble_eq_true rfl) (ls := [(0, .ref (63)), (1, .int (s))]) rfl ?_
  refine GG.iconst (v := 0) e_X11_mostAlike_0 rfl ?_
  refine GG.istore_n e_X11_mostAlike_1 (i := 2) rfl (Nat.le_of_ble_eq_true rfl) (ls' := [(2, .int _), (0, .ref _), (1, .int _)]) rfl ?_
  refine GG.iconst (v := 0) e_X11_mostAlike_2 rfl ?_
  refine GG.istore_n e_X11_mostAlike_3 (i := 3) rfl (Nat.le_of_ble_eq_true rfl) (ls' := [(3, .int _), (2, .int _), (0, .ref _), (1, .int _)]) rfl ?_
  exact out 7 0 (by omega) (by omega)
theorem scr_74 {j : Nat} : gScr 74 j := by unfold gScr; omega
theorem s_X11_look {g : Nat → Nat} (hR : MR μ P A) (hN : mrd μ 64 48 = nI N) (hN6 : N ≤ 6) (hs : s = mBits (fun kind => mAll (fun q => rKn μ mLean 49 i q kind) N) 6) (hg : ∀ q, q < 120 → g q = mAk (fun k => mLean (nI k) (nI (q % 10)) (nI (q / 10))) s) (hbad : mIn i P = false → Q (some (.int (-2))) (rRf μ 0))
    (hok : mIn i P = true → ∀ ν, gSm μ ν → Q (some (.int (if s = 0 then -1 else (mFew g id 99 120).1))) ν) : SPC 2 MX11_look [.ref 63, .int i] μ Q := by
  have out : mIn i P = true → ∀ n q x y ν, 120 - q < n → q ≤ 120 → (q = 0 ∨ ¬ s = 0) → mFew g id 99 q = (x, y) → y ≤ 99 → gSm μ ν → GG 2 MX11_look 30 [(5, .int (nI q)), (4, .int (nI y)), (3, .int x), (2, .int s), (0, .ref 63), (1, .int i)] [] ν Q := by
    intro hin n
    induction n with
    | zero => intro q x y ν h; omega
    | succ n ih =>
      intro q x y ν hn hq hs hl hy hm
      have inn : ∀ m j ν, 6 - j < m → j ≤ 6 → q < 120 → ¬ s = 0 → gSm μ ν → (∀ k, k < j → mrd ν 74 k = mLean (nI k) (nI (q % 10)) (nI (q / 10))) → GG 2 MX11_look 44 [(6, .int (nI j)), (5, .int (nI q)), (4, .int (nI y)), (3, .int x), (2, .int s), (0, .ref 63), (1, .int i)] [] ν Q := by
        intro m
        induction m with
        | zero => intro j ν h; omega
        | succ m ihm =>
          intro j ν hm' hj e0 hs0 hm hk
          refine GG.iload e_X11_look_44 0 rfl ?_
          refine GG.bipush (v := 6) e_X11_look_46 rfl ?_
          refine GG.icmp_ge (tgt := 79) e_X11_look_48 rfl (fun h48 => ?_) (fun h48 => ?_)
          · skip
            have e := nle (a := 6) h48 (by omega) (by omega)
            have e2 : j = 6 := by omega
            subst e2
            refine GG.aload_n e_X11_look_79 (i := 0) rfl 5 rfl ?_
            refine GG.iload_n e_X11_look_80 (i := 2) rfl 4 rfl ?_
            refine GG.callV (d' := 1) (a := 63) (as := [.int _]) e_X11_look_81 ml_X11_204 mf_X11_mostAlike mv_X11_mostAlike (rc_X11 i_X11_63) rfl (by decide) (Nat.le_of_ble_eq_true rfl) rfl ?_
            refine s_X11_mostAlike ?_
            have ha : mAk (mrd ν 74) s = g q := by rw [hg q e0]; exact mAk_c hk
            have h6 : g q ≤ 6 := by rw [← ha]; exact mAk_6 _ _
            rw [ha]
            refine GG.istore e_X11_look_84 (Nat.le_of_ble_eq_true rfl) (ls' := [(6, .int _), (5, .int _), (4, .int _), (3, .int _), (2, .int _), (0, .ref _), (1, .int _)]) rfl ?_
            refine GG.iload e_X11_look_86 0 rfl ?_
            refine GG.iload e_X11_look_88 2 rfl ?_
            refine GG.icmp_ge (tgt := 98) e_X11_look_90 rfl (fun h90 => ?_) (fun h90 => ?_)
            · skip
              have e5 := nle h90 (by omega) (by omega)
              have hy2 : mFew g id 99 (q + 1) = (x, y) := by rw [mFew, hl, if_neg (by show ¬ g q < y; omega)]
              have h7 : y ≤ 99 := hy
              refine GG.iload_n e_X11_look_98 (i := 3) rfl 3 rfl ?_
              refine GG.istore_n e_X11_look_99 (i := 3) rfl (Nat.le_of_ble_eq_true rfl) (ls' := [(3, .int _), (6, .int _), (5, .int _), (4, .int _), (2, .int _), (0, .ref _), (1, .int _)]) rfl ?_
              refine GG.iload e_X11_look_100 1 rfl ?_
              refine GG.iload e_X11_look_102 3 rfl ?_
              refine GG.icmp_ge (tgt := 112) e_X11_look_104 rfl (fun h104 => ?_) (fun h104 => ?_)
              · skip
                refine GG.iload e_X11_look_112 3 rfl ?_
                refine GG.istore e_X11_look_114 (Nat.le_of_ble_eq_true rfl) (ls' := [(4, .int _), (3, .int _), (6, .int _), (5, .int _), (2, .int _), (0, .ref _), (1, .int _)]) rfl ?_
                refine GG.iinc e_X11_look_116 3 rfl (v := _) (by first | exact nI_s _ | exact nI_d _ | rfl) (Nat.le_of_ble_eq_true rfl) (ls' := [(5, .int _), (4, .int _), (3, .int _), (6, .int _), (2, .int _), (0, .ref _), (1, .int _)]) rfl ?_
                refine GG.goto (tgt := 30) e_X11_look_119 rfl ?_
                refine GG.perm [0, 1, 2, 4, 5, 6] rfl ?_
                first | exact absurd h90 h104 | exact absurd h104 h90 | exact ih (q + 1) _ _ _ (by omega) (by omega) (Or.inr hs0) hy2 h7 hm
              · skip
                refine GG.iload e_X11_look_107 1 rfl ?_
                refine GG.goto (tgt := 114) e_X11_look_109 rfl ?_
                refine GG.istore e_X11_look_114 (Nat.le_of_ble_eq_true rfl) (ls' := [(4, .int _), (3, .int _), (6, .int _), (5, .int _), (2, .int _), (0, .ref _), (1, .int _)]) rfl ?_
                refine GG.iinc e_X11_look_116 3 rfl (v := _) (by first | exact nI_s _ | exact nI_d _ | rfl) (Nat.le_of_ble_eq_true rfl) (ls' := [(5, .int _), (4, .int _), (3, .int _), (6, .int _), (2, .int _), (0, .ref _), (1, .int _)]) rfl ?_
                refine GG.goto (tgt := 30) e_X11_look_119 rfl ?_
                refine GG.perm [0, 1, 2, 4, 5, 6] rfl ?_
                first | exact absurd h90 h104 | exact absurd h104 h90 | exact ih (q + 1) _ _ _ (by omega) (by omega) (Or.inr hs0) hy2 h7 hm
            · skip
              have e5 := nnle h90 (by omega) (by omega)
              have hy2 : mFew g id 99 (q + 1) = (nI q, g q) := by rw [mFew, hl, if_pos (by show g q < y; omega)]; rfl
              have h7 : g q ≤ 99 := by omega
              refine GG.iload e_X11_look_93 1 rfl ?_
              refine GG.goto (tgt := 99) e_X11_look_95 rfl ?_
              refine GG.istore_n e_X11_look_99 (i := 3) rfl (Nat.le_of_ble_eq_true rfl) (ls' := [(3, .int _), (6, .int _), (5, .int _), (4, .int _), (2, .int _), (0, .ref _), (1, .int _)]) rfl ?_
              refine GG.iload e_X11_look_100 1 rfl ?_
              refine GG.iload e_X11_look_102 3 rfl ?_
              refine GG.icmp_ge (tgt := 112) e_X11_look_104 rfl (fun h104 => ?_) (fun h104 => ?_)
              · skip
                refine GG.iload e_X11_look_112 3 rfl ?_
                refine GG.istore e_X11_look_114 (Nat.le_of_ble_eq_true rfl) (ls' := [(4, .int _), (3, .int _), (6, .int _), (5, .int _), (2, .int _), (0, .ref _), (1, .int _)]) rfl ?_
                refine GG.iinc e_X11_look_116 3 rfl (v := _) (by first | exact nI_s _ | exact nI_d _ | rfl) (Nat.le_of_ble_eq_true rfl) (ls' := [(5, .int _), (4, .int _), (3, .int _), (6, .int _), (2, .int _), (0, .ref _), (1, .int _)]) rfl ?_
                refine GG.goto (tgt := 30) e_X11_look_119 rfl ?_
                refine GG.perm [0, 1, 2, 4, 5, 6] rfl ?_
                first | exact absurd h90 h104 | exact absurd h104 h90 | exact ih (q + 1) _ _ _ (by omega) (by omega) (Or.inr hs0) hy2 h7 hm
              · skip
                refine GG.iload e_X11_look_107 1 rfl ?_
                refine GG.goto (tgt := 114) e_X11_look_109 rfl ?_
                refine GG.istore e_X11_look_114 (Nat.le_of_ble_eq_true rfl) (ls' := [(4, .int _), (3, .int _), (6, .int _), (5, .int _), (2, .int _), (0, .ref _), (1, .int _)]) rfl ?_
                refine GG.iinc e_X11_look_116 3 rfl (v := _) (by first | exact nI_s _ | exact nI_d _ | rfl) (Nat.le_of_ble_eq_true rfl) (ls' := [(5, .int _), (4, .int _), (3, .int _), (6, .int _), (2, .int _), (0, .ref _), (1, .int _)]) rfl ?_
                refine GG.goto (tgt := 30) e_X11_look_119 rfl ?_
                refine GG.perm [0, 1, 2, 4, 5, 6] rfl ?_
                first | exact absurd h90 h104 | exact absurd h104 h90 | exact ih (q + 1) _ _ _ (by omega) (by omega) (Or.inr hs0) hy2 h7 hm
          · skip
            have e := nnle (a := 6) h48 (by omega) (by omega)
            refine GG.aload_n e_X11_look_51 (i := 0) rfl 5 rfl ?_
            refine GG.getR (b := 74) e_X11_look_52 fl_X11_45 (sf_X11_20 i_X11_63) ?_
            refine GG.iload e_X11_look_55 0 rfl ?_
            refine GG.iload e_X11_look_57 0 rfl ?_
            refine GG.iload e_X11_look_59 1 rfl ?_
            refine GG.bipush (v := 10) e_X11_look_61 rfl ?_
            refine GG.irem e_X11_look_63 (by decide) ?_
            refine GG.top (mIrem_n (by omega)) ?_
            refine GG.iload e_X11_look_64 1 rfl ?_
            refine GG.bipush (v := 10) e_X11_look_66 rfl ?_
            refine GG.idiv e_X11_look_68 (by decide) ?_
            refine GG.top (mDiv_n (d := 10) (by omega) (by omega) (by omega)) ?_
            refine GG.callS (d' := 0) (as := [.int _, .int _, .int _]) e_X11_look_69 ml_X11_135 mf_X11_leansBy ms_X11_leansBy rfl (by decide) (Nat.le_of_ble_eq_true rfl) rfl ?_
            refine s_X11_leansBy ?_
            refine GG.iastoreE (k := j) e_X11_look_72 (sa_X11_20 i_X11_63) (rfl) (by omega) (Nat.le_of_ble_eq_true rfl) ?_
            refine GG.iinc e_X11_look_73 0 rfl (v := _) (by first | exact nI_s _ | exact nI_d _ | rfl) (Nat.le_of_ble_eq_true rfl) (ls' := [(6, .int _), (5, .int _), (4, .int _), (3, .int _), (2, .int _), (0, .ref _), (1, .int _)]) rfl ?_
            refine GG.goto (tgt := 44) e_X11_look_76 rfl ?_
            refine ihm (j + 1) _ (by omega) (by omega) e0 hs0 (hm.wr scr_74) (fun k hk' => ?_)
            rw [mrd_wr]
            by_cases hh : k = j
            · rw [if_pos ⟨rfl, hh⟩, hh]
            · rw [if_neg (fun z => hh z.2), hk k (by omega)]
      refine GG.iload e_X11_look_30 0 rfl ?_
      refine GG.bipush (v := 120) e_X11_look_32 rfl ?_
      refine GG.icmp_ge (tgt := 122) e_X11_look_34 rfl (fun h34 => ?_) (fun h34 => ?_)
      · skip
        have e := nle (a := 120) h34 (by omega) (by omega)
        have e2 : q = 120 := by omega
        subst e2
        refine GG.iload_n e_X11_look_122 (i := 3) rfl 2 rfl ?_
        refine GG.iret e_X11_look_123 rfl rfl ?_
        refine qI (hok hin _ hm) ?_
        first | (rw [if_pos h38]; rcases hs with hs | hs; subst hs; cases hl; rfl; exact absurd h38 hs) | rw [if_neg (hs.resolve_left (by omega)), hl]
      · skip
        have e := nnle (a := 120) h34 (by omega) (by omega)
        refine GG.iload_n e_X11_look_37 (i := 2) rfl 3 rfl ?_
        refine GG.if_eq (tgt := 122) e_X11_look_38 rfl (fun h38 => ?_) (fun h38 => ?_)
        · skip
          refine GG.iload_n e_X11_look_122 (i := 3) rfl 2 rfl ?_
          refine GG.iret e_X11_look_123 rfl rfl ?_
          refine qI (hok hin _ hm) ?_
          first | (rw [if_pos h38]; rcases hs with hs | hs; subst hs; cases hl; rfl; exact absurd h38 hs) | rw [if_neg (hs.resolve_left (by omega)), hl]
        · skip
          refine GG.iconst (v := 0) e_X11_look_41 rfl ?_
          refine GG.istore e_X11_look_42 (Nat.le_of_ble_eq_true rfl) (ls' := [(6, .int _), (5, .int _), (4, .int _), (3, .int _), (2, .int _), (0, .ref _), (1, .int _)]) rfl ?_
          exact inn 7 0 _ (by omega) (by omega) e h38 hm (fun k h => by omega)
  refine SPC.of (by decide +kernel) (Nat.le_of_ble_eq_true rfl) (ls := [(0, .ref (63)), (1, .int (i))]) rfl ?_
  refine GG.aload_n e_X11_look_0 (i := 0) rfl 0 rfl ?_
  refine GG.iload_n e_X11_look_1 (i := 1) rfl 1 rfl ?_
  refine GG.callV (d' := 1) (a := 63) (as := [.int _]) e_X11_look_2 ml_X11_159 mf_X11_isOne mv_X11_isOne (rc_X11 i_X11_63) rfl (by decide) (Nat.le_of_ble_eq_true rfl) rfl ?_
  refine s_X11_isOne hR ?_
  refine GG.if_ne (tgt := 15) e_X11_look_5 rfl (fun h5 => ?_) (fun h5 => ?_)
  · skip
    have o1 := (bI_n0 _).mp h5
    refine GG.aload_n e_X11_look_15 (i := 0) rfl 0 rfl ?_
    refine GG.iload_n e_X11_look_16 (i := 1) rfl 1 rfl ?_
    refine GG.callV (d' := 1) (a := 63) (as := [.int _]) e_X11_look_17 ml_X11_201 mf_X11_kindsOf mv_X11_kindsOf (rc_X11 i_X11_63) rfl (by decide) (Nat.le_of_ble_eq_true rfl) rfl ?_
    refine s_X11_kindsOf hN hN6 ?_
    rw [← hs]
    refine GG.istore_n e_X11_look_20 (i := 2) rfl (Nat.le_of_ble_eq_true rfl) (ls' := [(2, .int _), (0, .ref _), (1, .int _)]) rfl ?_
    refine GG.iconst (v := -1) e_X11_look_21 rfl ?_
    refine GG.istore_n e_X11_look_22 (i := 3) rfl (Nat.le_of_ble_eq_true rfl) (ls' := [(3, .int _), (2, .int _), (0, .ref _), (1, .int _)]) rfl ?_
    refine GG.bipush (v := 99) e_X11_look_23 rfl ?_
    refine GG.istore e_X11_look_25 (Nat.le_of_ble_eq_true rfl) (ls' := [(4, .int _), (3, .int _), (2, .int _), (0, .ref _), (1, .int _)]) rfl ?_
    refine GG.iconst (v := 0) e_X11_look_27 rfl ?_
    refine GG.istore e_X11_look_28 (Nat.le_of_ble_eq_true rfl) (ls' := [(5, .int _), (4, .int _), (3, .int _), (2, .int _), (0, .ref _), (1, .int _)]) rfl ?_
    exact out o1 121 0 _ 99 _ (by omega) (by omega) (Or.inl rfl) rfl (by omega) (gSm.rf _)
  · skip
    have oo := (bI_0 _).mp h5
    refine GG.aload_n e_X11_look_8 (i := 0) rfl 0 rfl ?_
    refine GG.bipush (v := -2) e_X11_look_9 rfl ?_
    refine GG.callV (d' := 0) (a := 63) (as := [.int _]) e_X11_look_11 ml_X11_55 mf_X11_refuse mv_X11_refuse (rc_X11 i_X11_63) rfl (by decide) (Nat.le_of_ble_eq_true rfl) rfl ?_
    refine s_X11_refB ?_
    refine GG.iret e_X11_look_14 rfl rfl ?_
    exact hbad oo
theorem s_X11_ask {g : Nat → Nat} (hR : MR μ P A) (hN : mrd μ 64 73 = nI N) (hN6 : N ≤ 6) (hs : s = mBits (fun kind => mAll (fun q => rKn μ mDamp 74 i q kind) N) 6) (hg : ∀ q, q < 160 → g q = mAk (fun k => mDamp (nI k) (nI (q % 16)) (nI (q / 16))) s) (hbad : mIn i A = false → Q (some (.int (-2))) (rRf μ 0))
    (hok : mIn i A = true → ∀ ν, gSm μ ν → Q (some (.int (if s = 0 then -1 else (mFew g (fun q => 100 * (q / 16) + q % 16) 99 160).1))) ν) : SPC 3 MX11_ask [.ref 63, .int i] μ Q := by
  have dv : ∀ q, q < 160 → nI q / 16 = nI (q / 16) ∧ nI q - nI q / 16 * 16 = nI (q % 16) := by decide +kernel
  generalize han : (fun q => 100 * (q / 16) + q % 16) = an at hok
  have hanq : ∀ q, an q = 100 * (q / 16) + q % 16 := fun q => by rw [← han]
  have out : mIn i A = true → ∀ n q x y ν, 160 - q < n → q ≤ 160 → (q = 0 ∨ ¬ s = 0) → mFew g an 99 q = (x, y) → y ≤ 99 → gSm μ ν → GG 3 MX11_ask 30 [(5, .int (nI q)), (4, .int (nI y)), (3, .int x), (2, .int s), (0, .ref 63), (1, .int i)] [] ν Q := by
    intro hin n
    induction n with
    | zero => intro q x y ν h; omega
    | succ n ih =>
      intro q x y ν hn hq hs hl hy hm
      have inn : ∀ m j ν, 6 - j < m → j ≤ 6 → q < 160 → ¬ s = 0 → gSm μ ν → (∀ k, k < j → mrd ν 74 k = mDamp (nI k) (nI (q % 16)) (nI (q / 16))) → GG 3 MX11_ask 59 [(8, .int (nI j)), (7, .int (nI (q % 16))), (6, .int (nI (q / 16))), (5, .int (nI q)), (4, .int (nI y)), (3, .int x), (2, .int s), (0, .ref 63), (1, .int i)] [] ν Q := by
        intro m
        induction m with
        | zero => intro j ν h; omega
        | succ m ihm =>
          intro j ν hm' hj e0 hs0 hm hk
          have ean : 100 * nI (q / 16) + nI (q % 16) = nI (an q) := by rw [hanq, show (100 : Int32) = nI 100 from rfl, pk_mul, nI_add]
          refine GG.iload e_X11_ask_59 0 rfl ?_
          refine GG.bipush (v := 6) e_X11_ask_61 rfl ?_
          refine GG.icmp_ge (tgt := 88) e_X11_ask_63 rfl (fun h63 => ?_) (fun h63 => ?_)
          · skip
            have e := nle (a := 6) h63 (by omega) (by omega)
            have e2 : j = 6 := by omega
            subst e2
            refine GG.aload_n e_X11_ask_88 (i := 0) rfl 7 rfl ?_
            refine GG.iload_n e_X11_ask_89 (i := 2) rfl 6 rfl ?_
            refine GG.callV (d' := 1) (a := 63) (as := [.int _]) e_X11_ask_90 ml_X11_204 mf_X11_mostAlike mv_X11_mostAlike (rc_X11 i_X11_63) rfl (by decide) (Nat.le_of_ble_eq_true rfl) rfl ?_
            refine s_X11_mostAlike ?_
            have ha : mAk (mrd ν 74) s = g q := by rw [hg q e0]; exact mAk_c hk
            have h6 : g q ≤ 6 := by rw [← ha]; exact mAk_6 _ _
            rw [ha]
            refine GG.istore e_X11_ask_93 (Nat.le_of_ble_eq_true rfl) (ls' := [(8, .int _), (7, .int _), (6, .int _), (5, .int _), (4, .int _), (3, .int _), (2, .int _), (0, .ref _), (1, .int _)]) rfl ?_
            refine GG.iload e_X11_ask_95 0 rfl ?_
            refine GG.iload e_X11_ask_97 4 rfl ?_
            refine GG.icmp_ge (tgt := 113) e_X11_ask_99 rfl (fun h99 => ?_) (fun h99 => ?_)
            · skip
              have e5 := nle h99 (by omega) (by omega)
              have hy2 : mFew g an 99 (q + 1) = (x, y) := by rw [mFew, hl, if_neg (by show ¬ g q < y; omega)]
              have h7 : y ≤ 99 := hy
              refine GG.iload_n e_X11_ask_113 (i := 3) rfl 5 rfl ?_
              refine GG.istore_n e_X11_ask_114 (i := 3) rfl (Nat.le_of_ble_eq_true rfl) (ls' := [(3, .int _), (8, .int _), (7, .int _), (6, .int _), (5, .int _), (4, .int _), (2, .int _), (0, .ref _), (1, .int _)]) rfl ?_
              refine GG.iload e_X11_ask_115 1 rfl ?_
              refine GG.iload e_X11_ask_117 5 rfl ?_
              refine GG.icmp_ge (tgt := 127) e_X11_ask_119 rfl (fun h119 => ?_) (fun h119 => ?_)
              · skip
                refine GG.iload e_X11_ask_127 5 rfl ?_
                refine GG.istore e_X11_ask_129 (Nat.le_of_ble_eq_true rfl) (ls' := [(4, .int _), (3, .int _), (8, .int _), (7, .int _), (6, .int _), (5, .int _), (2, .int _), (0, .ref _), (1, .int _)]) rfl ?_
                refine GG.iinc e_X11_ask_131 5 rfl (v := _) (by first | exact nI_s _ | exact nI_d _ | rfl) (Nat.le_of_ble_eq_true rfl) (ls' := [(5, .int _), (4, .int _), (3, .int _), (8, .int _), (7, .int _), (6, .int _), (2, .int _), (0, .ref _), (1, .int _)]) rfl ?_
                refine GG.goto (tgt := 30) e_X11_ask_134 rfl ?_
                refine GG.perm [0, 1, 2, 6, 7, 8] rfl ?_
                first | exact absurd h99 h119 | exact absurd h119 h99 | exact ih (q + 1) _ _ _ (by omega) (by omega) (Or.inr hs0) hy2 h7 hm
              · skip
                refine GG.iload e_X11_ask_122 1 rfl ?_
                refine GG.goto (tgt := 129) e_X11_ask_124 rfl ?_
                refine GG.istore e_X11_ask_129 (Nat.le_of_ble_eq_true rfl) (ls' := [(4, .int _), (3, .int _), (8, .int _), (7, .int _), (6, .int _), (5, .int _), (2, .int _), (0, .ref _), (1, .int _)]) rfl ?_
                refine GG.iinc e_X11_ask_131 5 rfl (v := _) (by first | exact nI_s _ | exact nI_d _ | rfl) (Nat.le_of_ble_eq_true rfl) (ls' := [(5, .int _), (4, .int _), (3, .int _), (8, .int _), (7, .int _), (6, .int _), (2, .int _), (0, .ref _), (1, .int _)]) rfl ?_
                refine GG.goto (tgt := 30) e_X11_ask_134 rfl ?_
                refine GG.perm [0, 1, 2, 6, 7, 8] rfl ?_
                first | exact absurd h99 h119 | exact absurd h119 h99 | exact ih (q + 1) _ _ _ (by omega) (by omega) (Or.inr hs0) hy2 h7 hm
            · skip
              have e5 := nnle h99 (by omega) (by omega)
              have hy2 : mFew g an 99 (q + 1) = (nI (an q), g q) := by rw [mFew, hl, if_pos (by show g q < y; omega)]
              have h7 : g q ≤ 99 := by omega
              refine GG.bipush (v := 100) e_X11_ask_102 rfl ?_
              refine GG.iload e_X11_ask_104 2 rfl ?_
              refine GG.imul e_X11_ask_106 ?_
              refine GG.iload e_X11_ask_107 1 rfl ?_
              refine GG.iadd e_X11_ask_109 ?_
              refine GG.top ean ?_
              refine GG.goto (tgt := 114) e_X11_ask_110 rfl ?_
              refine GG.istore_n e_X11_ask_114 (i := 3) rfl (Nat.le_of_ble_eq_true rfl) (ls' := [(3, .int _), (8, .int _), (7, .int _), (6, .int _), (5, .int _), (4, .int _), (2, .int _), (0, .ref _), (1, .int _)]) rfl ?_
              refine GG.iload e_X11_ask_115 1 rfl ?_
              refine GG.iload e_X11_ask_117 5 rfl ?_
              refine GG.icmp_ge (tgt := 127) e_X11_ask_119 rfl (fun h119 => ?_) (fun h119 => ?_)
              · skip
                refine GG.iload e_X11_ask_127 5 rfl ?_
                refine GG.istore e_X11_ask_129 (Nat.le_of_ble_eq_true rfl) (ls' := [(4, .int _), (3, .int _), (8, .int _), (7, .int _), (6, .int _), (5, .int _), (2, .int _), (0, .ref _), (1, .int _)]) rfl ?_
                refine GG.iinc e_X11_ask_131 5 rfl (v := _) (by first | exact nI_s _ | exact nI_d _ | rfl) (Nat.le_of_ble_eq_true rfl) (ls' := [(5, .int _), (4, .int _), (3, .int _), (8, .int _), (7, .int _), (6, .int _), (2, .int _), (0, .ref _), (1, .int _)]) rfl ?_
                refine GG.goto (tgt := 30) e_X11_ask_134 rfl ?_
                refine GG.perm [0, 1, 2, 6, 7, 8] rfl ?_
                first | exact absurd h99 h119 | exact absurd h119 h99 | exact ih (q + 1) _ _ _ (by omega) (by omega) (Or.inr hs0) hy2 h7 hm
              · skip
                refine GG.iload e_X11_ask_122 1 rfl ?_
                refine GG.goto (tgt := 129) e_X11_ask_124 rfl ?_
                refine GG.istore e_X11_ask_129 (Nat.le_of_ble_eq_true rfl) (ls' := [(4, .int _), (3, .int _), (8, .int _), (7, .int _), (6, .int _), (5, .int _), (2, .int _), (0, .ref _), (1, .int _)]) rfl ?_
                refine GG.iinc e_X11_ask_131 5 rfl (v := _) (by first | exact nI_s _ | exact nI_d _ | rfl) (Nat.le_of_ble_eq_true rfl) (ls' := [(5, .int _), (4, .int _), (3, .int _), (8, .int _), (7, .int _), (6, .int _), (2, .int _), (0, .ref _), (1, .int _)]) rfl ?_
                refine GG.goto (tgt := 30) e_X11_ask_134 rfl ?_
                refine GG.perm [0, 1, 2, 6, 7, 8] rfl ?_
                first | exact absurd h99 h119 | exact absurd h119 h99 | exact ih (q + 1) _ _ _ (by omega) (by omega) (Or.inr hs0) hy2 h7 hm
          · skip
            have e := nnle (a := 6) h63 (by omega) (by omega)
            refine GG.aload_n e_X11_ask_66 (i := 0) rfl 7 rfl ?_
            refine GG.getR (b := 74) e_X11_ask_67 fl_X11_45 (sf_X11_20 i_X11_63) ?_
            refine GG.iload e_X11_ask_70 0 rfl ?_
            refine GG.iload e_X11_ask_72 0 rfl ?_
            refine GG.iload e_X11_ask_74 1 rfl ?_
            refine GG.iload e_X11_ask_76 2 rfl ?_
            refine GG.callS (d' := 1) (as := [.int _, .int _, .int _]) e_X11_ask_78 ml_X11_143 mf_X11_dampedBy ms_X11_dampedBy rfl (by decide) (Nat.le_of_ble_eq_true rfl) rfl ?_
            refine s_X11_dampedBy ?_
            refine GG.iastoreE (k := j) e_X11_ask_81 (sa_X11_20 i_X11_63) (rfl) (by omega) (Nat.le_of_ble_eq_true rfl) ?_
            refine GG.iinc e_X11_ask_82 0 rfl (v := _) (by first | exact nI_s _ | exact nI_d _ | rfl) (Nat.le_of_ble_eq_true rfl) (ls' := [(8, .int _), (7, .int _), (6, .int _), (5, .int _), (4, .int _), (3, .int _), (2, .int _), (0, .ref _), (1, .int _)]) rfl ?_
            refine GG.goto (tgt := 59) e_X11_ask_85 rfl ?_
            refine ihm (j + 1) _ (by omega) (by omega) e0 hs0 (hm.wr scr_74) (fun k hk' => ?_)
            rw [mrd_wr]
            by_cases hh : k = j
            · rw [if_pos ⟨rfl, hh⟩, hh]
            · rw [if_neg (fun z => hh z.2), hk k (by omega)]
      refine GG.iload e_X11_ask_30 0 rfl ?_
      refine GG.sipush (v := 160) e_X11_ask_32 rfl ?_
      refine GG.icmp_ge (tgt := 137) e_X11_ask_35 rfl (fun h35 => ?_) (fun h35 => ?_)
      · skip
        have e := nle (a := 160) h35 (by omega) (by omega)
        have e2 : q = 160 := by omega
        subst e2
        refine GG.iload_n e_X11_ask_137 (i := 3) rfl 2 rfl ?_
        refine GG.iret e_X11_ask_138 rfl rfl ?_
        refine qI (hok hin _ hm) ?_
        first | (rw [if_pos h39]; rcases hs with hs | hs; subst hs; cases hl; rfl; exact absurd h39 hs) | rw [if_neg (hs.resolve_left (by omega)), hl]
      · skip
        have e := nnle (a := 160) h35 (by omega) (by omega)
        refine GG.iload_n e_X11_ask_38 (i := 2) rfl 3 rfl ?_
        refine GG.if_eq (tgt := 137) e_X11_ask_39 rfl (fun h39 => ?_) (fun h39 => ?_)
        · skip
          refine GG.iload_n e_X11_ask_137 (i := 3) rfl 2 rfl ?_
          refine GG.iret e_X11_ask_138 rfl rfl ?_
          refine qI (hok hin _ hm) ?_
          first | (rw [if_pos h39]; rcases hs with hs | hs; subst hs; cases hl; rfl; exact absurd h39 hs) | rw [if_neg (hs.resolve_left (by omega)), hl]
        · skip
          refine GG.iload e_X11_ask_42 0 rfl ?_
          refine GG.bipush (v := 16) e_X11_ask_44 rfl ?_
          refine GG.idiv e_X11_ask_46 (by decide) ?_
          refine GG.top (dv q e).1 ?_
          refine GG.istore e_X11_ask_47 (Nat.le_of_ble_eq_true rfl) (ls' := [(6, .int _), (5, .int _), (4, .int _), (3, .int _), (2, .int _), (0, .ref _), (1, .int _)]) rfl ?_
          refine GG.iload e_X11_ask_49 1 rfl ?_
          refine GG.bipush (v := 16) e_X11_ask_51 rfl ?_
          refine GG.irem e_X11_ask_53 (by decide) ?_
          refine GG.top (dv q e).2 ?_
          refine GG.istore e_X11_ask_54 (Nat.le_of_ble_eq_true rfl) (ls' := [(7, .int _), (6, .int _), (5, .int _), (4, .int _), (3, .int _), (2, .int _), (0, .ref _), (1, .int _)]) rfl ?_
          refine GG.iconst (v := 0) e_X11_ask_56 rfl ?_
          refine GG.istore e_X11_ask_57 (Nat.le_of_ble_eq_true rfl) (ls' := [(8, .int _), (7, .int _), (6, .int _), (5, .int _), (4, .int _), (3, .int _), (2, .int _), (0, .ref _), (1, .int _)]) rfl ?_
          exact inn 7 0 _ (by omega) (by omega) e h39 hm (fun k h => by omega)
  refine SPC.of (by decide +kernel) (Nat.le_of_ble_eq_true rfl) (ls := [(0, .ref (63)), (1, .int (i))]) rfl ?_
  refine GG.aload_n e_X11_ask_0 (i := 0) rfl 0 rfl ?_
  refine GG.iload_n e_X11_ask_1 (i := 1) rfl 1 rfl ?_
  refine GG.callV (d' := 1) (a := 63) (as := [.int _]) e_X11_ask_2 ml_X11_162 mf_X11_isAunt mv_X11_isAunt (rc_X11 i_X11_63) rfl (by decide) (Nat.le_of_ble_eq_true rfl) rfl ?_
  refine s_X11_isAunt hR ?_
  refine GG.if_ne (tgt := 15) e_X11_ask_5 rfl (fun h5 => ?_) (fun h5 => ?_)
  · skip
    have o1 := (bI_n0 _).mp h5
    refine GG.aload_n e_X11_ask_15 (i := 0) rfl 0 rfl ?_
    refine GG.iload_n e_X11_ask_16 (i := 1) rfl 1 rfl ?_
    refine GG.callV (d' := 2) (a := 63) (as := [.int _]) e_X11_ask_17 ml_X11_207 mf_X11_auntKinds mv_X11_auntKinds (rc_X11 i_X11_63) rfl (by decide) (Nat.le_of_ble_eq_true rfl) rfl ?_
    refine s_X11_auntKinds hN hN6 ?_
    rw [← hs]
    refine GG.istore_n e_X11_ask_20 (i := 2) rfl (Nat.le_of_ble_eq_true rfl) (ls' := [(2, .int _), (0, .ref _), (1, .int _)]) rfl ?_
    refine GG.iconst (v := -1) e_X11_ask_21 rfl ?_
    refine GG.istore_n e_X11_ask_22 (i := 3) rfl (Nat.le_of_ble_eq_true rfl) (ls' := [(3, .int _), (2, .int _), (0, .ref _), (1, .int _)]) rfl ?_
    refine GG.bipush (v := 99) e_X11_ask_23 rfl ?_
    refine GG.istore e_X11_ask_25 (Nat.le_of_ble_eq_true rfl) (ls' := [(4, .int _), (3, .int _), (2, .int _), (0, .ref _), (1, .int _)]) rfl ?_
    refine GG.iconst (v := 0) e_X11_ask_27 rfl ?_
    refine GG.istore e_X11_ask_28 (Nat.le_of_ble_eq_true rfl) (ls' := [(5, .int _), (4, .int _), (3, .int _), (2, .int _), (0, .ref _), (1, .int _)]) rfl ?_
    exact out o1 161 0 _ 99 _ (by omega) (by omega) (Or.inl rfl) rfl (by omega) (gSm.rf _)
  · skip
    have oo := (bI_0 _).mp h5
    refine GG.aload_n e_X11_ask_8 (i := 0) rfl 0 rfl ?_
    refine GG.bipush (v := -2) e_X11_ask_9 rfl ?_
    refine GG.callV (d' := 0) (a := 63) (as := [.int _]) e_X11_ask_11 ml_X11_55 mf_X11_refuse mv_X11_refuse (rc_X11 i_X11_63) rfl (by decide) (Nat.le_of_ble_eq_true rfl) rfl ?_
    refine s_X11_refB ?_
    refine GG.iret e_X11_ask_14 rfl rfl ?_
    exact hbad oo
end S40
