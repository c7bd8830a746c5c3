set_option maxHeartbeats 4000000 in
set_option maxRecDepth 100000 in
theorem m_settle (l : Launch) (dC : Nat → ClassId) (dI : Nat → Nat → Nat) (ad : Nat → Nat) (cI cJ : ClassId) (cd n tc : Nat) (ki ra : Nat → Int32) (po se : Nat → Int64) (bc : Nat → Int32) (bs op : Nat → Int64) (pr pe : Nat → Int32) (pm : Nat → Int64) (sz : Nat) (h1 : 1 ≤ n) (hn : n ≤ 15) (hsi0 : si po n = 0) (hsm0 : sml po n) : Met l y_M_settle (.code y_M_settle b_M_settle 6 (some .int) :: wAll) ({ frames := 0, cells := 0, slots := 0, locals := 0 } : Room) (mu_P [.ref (ad 0)] (dC, dI) vwCl [(cI, .int), (cJ, .long)] (md_w ad cI cJ cd n tc ki ra po se bc bs op pr pe pm) sz) (va_Qi (fun (z : Int32) (_ : Unit) => z = nI (trs n 14 (0, cpy n po op, pr, pe, pm)).1) (mu_B (dC, dI) vwCl [(cI, .int), (cJ, .long)] (va_A (md_w ad cI cJ cd n tc ki ra po se bc bs op pr pe pm) sz) (md_w ad cI cJ 0 n ((trs n 14 (0, cpy n po op, pr, pe, pm)).1) ki ra (cpy n (fun _ => 0) po) (cpy n (fun q => se q + po q) se) bc bs ((trs n 14 (0, cpy n po op, pr, pe, pm)).2.1) ((trs n 14 (0, cpy n po op, pr, pe, pm)).2.2.1) ((trs n 14 (0, cpy n po op, pr, pe, pm)).2.2.2.1) ((trs n 14 (0, cpy n po op, pr, pe, pm)).2.2.2.2))) (va_A (md_w ad cI cJ cd n tc ki ra po se bc bs op pr pe pm) sz)) 0 0 (va_A (md_w ad cI cJ cd n tc ki ra po se bc bs op pr pe pm) sz) := by
  refine Met.ofW (cc := b_M_settle) (maxL := 6) (ret := (some .int)) (by decide) rfl ?_
  intro p e s m args below meth c s₁ B hml hv
  obtain ⟨rfl, hsz, hP, hK, hD0⟩ := hv
  have hx := B.exec
  have hb := B.bytes
  have hr := B.returns
  have hts0 := atoms_spec (ws := (.code y_M_settle b_M_settle 6 (some .int) :: wAll)) B.pre
  have hts := hts_all hts0
  have hown : s.vm.findClass "ClearingBooksModel" = some m.cls := findClass_of_methodNamed B.named
  have hlocks := B.notSynchronized
  subst hsz
  have hD := hD0.self (sz := s.heap.size)
  generalize hAe : va_A (md_w ad cI cJ cd n tc ki ra po se bc bs op pr pe pm) s.heap.size = A at hD ⊢
  have hA : ∀ q : Nat, s.heap.size ≤ q → A q := fun q h => by rw [← hAe]; exact Or.inr h
  have hS : va_S A s.heap s.heap [] := va_S.rf
  have hl := lv_entry ([.ref (ad 0)]) (n := 6) (Nat.le_of_ble_eq_true rfl)
  rw [lg_entry_eq]
  generalize (lg_sl ([.ref (ad 0)]) ++ List.replicate (6 - (lg_sl ([.ref (ad 0)])).length) Slot.unset).toArray = ls at hl ⊢
  have hl : lv_has ls 6 [(0, .ref (ad 0))] := hl
  refine lv_aload_n hx hb d_M_settle_0 rfl (lv_at hl 0 rfl) ?_
  refine lv_iconst (v := nI 0) hx hb d_M_settle_1 (by decide) ?_
  refine va_put (D := (dC, dI)) (ci := 1) (v := .int (nI 0)) (ty := .int) (C := "ClearingBooksModel") (T := T_M) (N := 13) hx hb hts wi_M ty_M tyok_M nm_M hown hK hP hD hS 0 rfl rfl 0 (by decide) (hts _ kw_273) (fun _ h9 => h9) rfl (by decide +kernel) rfl rfl (Nat.le_of_ble_eq_true rfl) d_M_settle_2 (fun H locs hP hD hS => ?_)
  have hP : va_P (dC, dI) vwCl (md_w ad cI cJ 0 n tc ki ra po se bc bs op pr pe pm) H := hP
  have hD : va_D A (md_w ad cI cJ 0 n tc ki ra po se bc bs op pr pe pm) := hD
  refine lv_iconst (v := nI 0) hx hb d_M_settle_5 (by decide) ?_
  refine lv_istore_n (lv' := [(1, .int (nI 0)), (0, .ref (ad 0))]) hx hb d_M_settle_6 rfl hl (by decide) rfl (fun ls hl => ?_)
  have loop2 : ∀ (k : Nat) (t : TT) (H : Heap) (locs : List Loc) (ls : Array Slot) (z : List (Nat × Value)), t.1 + k = 14 → trs n k t = (trs n 14 (0, cpy n po op, pr, pe, pm)) → si t.2.1 n = 0 → sml t.2.1 n → cz t.2.1 n ≤ k + 1 → va_P (dC, dI) vwCl (md_w ad cI cJ 0 n t.1 ki ra (cpy n (fun _ => 0) po) (cpy n (fun q => se q + po q) se) bc bs t.2.1 t.2.2.1 t.2.2.2.1 t.2.2.2.2) H → va_D A (md_w ad cI cJ 0 n t.1 ki ra (cpy n (fun _ => 0) po) (cpy n (fun q => se q + po q) se) bc bs t.2.1 t.2.2.1 t.2.2.2.1 t.2.2.2.2) → va_S A s.heap H locs → lv_has ls 6 ((0, .ref (ad 0)) :: (1, .int (nI 1)) :: z) → W p l e (headSpec (.code y_M_settle b_M_settle 6 (some .int) :: wAll) ({ frames := 0, cells := 0, slots := 0, locals := 0 } : Room)).room s m ([.ref (ad 0)] : List Value).toArray below meth c H locs 0 0 (MQ below (va_Qi (fun (z : Int32) (_ : Unit) => z = nI (trs n 14 (0, cpy n po op, pr, pe, pm)).1) (mu_B (dC, dI) vwCl [(cI, .int), (cJ, .long)] A (md_w ad cI cJ 0 n ((trs n 14 (0, cpy n po op, pr, pe, pm)).1) ki ra (cpy n (fun _ => 0) po) (cpy n (fun q => se q + po q) se) bc bs ((trs n 14 (0, cpy n po op, pr, pe, pm)).2.1) ((trs n 14 (0, cpy n po op, pr, pe, pm)).2.2.1) ((trs n 14 (0, cpy n po op, pr, pe, pm)).2.2.2.1) ((trs n 14 (0, cpy n po op, pr, pe, pm)).2.2.2.2))) A) ([.ref (ad 0)] : List Value).toArray s 0 0 A) (F0 m 62 ls []) := by
    intro k
    induction k with
    | zero =>
      intro t H locs ls z hk hF hsi hsm hcz hP hD hS hl
      replace hl := lv_sub (l' := [(0, .ref (ad 0)), (1, .int (nI 1))]) hl [0, 1] rfl
      have h7 := am_le t.2.1 (n - 1)
      have h8 := ax_le t.2.1 (n - 1)
      have tail : ∀ (ls : Array Slot), lv_has ls 6 [(0, .ref (ad 0)), (1, .int (nI 1)), (2, .int (nI (am t.2.1 (n - 1)))), (3, .int (nI (ax t.2.1 (n - 1)))), (4, .int (nI n))] → W p l e (headSpec (.code y_M_settle b_M_settle 6 (some .int) :: wAll) ({ frames := 0, cells := 0, slots := 0, locals := 0 } : Room)).room s m ([.ref (ad 0)] : List Value).toArray below meth c H locs 0 0 (MQ below (va_Qi (fun (z : Int32) (_ : Unit) => z = nI (trs n 14 (0, cpy n po op, pr, pe, pm)).1) (mu_B (dC, dI) vwCl [(cI, .int), (cJ, .long)] A (md_w ad cI cJ 0 n ((trs n 14 (0, cpy n po op, pr, pe, pm)).1) ki ra (cpy n (fun _ => 0) po) (cpy n (fun q => se q + po q) se) bc bs ((trs n 14 (0, cpy n po op, pr, pe, pm)).2.1) ((trs n 14 (0, cpy n po op, pr, pe, pm)).2.2.1) ((trs n 14 (0, cpy n po op, pr, pe, pm)).2.2.2.1) ((trs n 14 (0, cpy n po op, pr, pe, pm)).2.2.2.2))) A) ([.ref (ad 0)] : List Value).toArray s 0 0 A) (F0 m 136 ls []) := by
        intro ls hl
        refine lv_aload_n hx hb d_M_settle_136 rfl (lv_at hl 0 rfl) ?_
        refine va_get (D := (dC, dI)) (ci := 1) (v := .ref (ad 7)) (C := "ClearingBooksModel") (T := T_M) (N := 13) hx hb hts wi_M hown hK hP 0 rfl rfl 8 (by decide) (hts _ kw_281) (fun _ h9 => h9) rfl d_M_settle_137 ?_
        refine lv_iload_n hx hb d_M_settle_140 rfl (lv_at hl 2 rfl) ?_
        refine xa_laload (f := t.2.1) hx hb hK hP 7 1 rfl rfl (j := am t.2.1 (n - 1)) (by omega) (by decide) d_M_settle_141 ?_
        refine lv_lconst (v := 0) hx hb d_M_settle_142 (by decide) ?_
        refine W.lcmp hx hb d_M_settle_143 ?_
        refine lv_if_ge (tgt := 151) hx hb d_M_settle_144 (by decide) (fun c71 => ?_) (fun c71 => ?_)
        · replace c71 := (lg_cmp_ge _ _).mp c71
          replace hF : t = (trs n 14 (0, cpy n po op, pr, pe, pm)) := hF
          refine lv_iconst (v := nI 0) hx hb d_M_settle_151 (by decide) ?_
          refine lv_istore_n (lv' := [(1, .int (nI 0)), (0, .ref (ad 0)), (2, .int (nI (am t.2.1 (n - 1)))), (3, .int (nI (ax t.2.1 (n - 1)))), (4, .int (nI n))]) hx hb d_M_settle_152 rfl hl (by decide) rfl (fun ls hl => ?_)
          refine lv_iload_n hx hb d_M_settle_153 rfl (lv_at hl 0 rfl) ?_
          refine lv_if_eq (tgt := 255) hx hb d_M_settle_154 (by decide) (fun c72 => ?_) (fun c72 => ?_)
          · refine lv_goto (tgt := 62) hx hb d_M_settle_255 (by decide) ?_
            refine lv_iload_n hx hb d_M_settle_62 rfl (lv_at hl 0 rfl) ?_
            refine lv_if_eq (tgt := 258) hx hb d_M_settle_63 (by decide) (fun c73 => ?_) (fun c73 => ?_)
            · refine lv_aload_n hx hb d_M_settle_258 rfl (lv_at hl 1 rfl) ?_
              refine va_get (D := (dC, dI)) (ci := 1) (v := .int (nI t.1)) (C := "ClearingBooksModel") (T := T_M) (N := 13) hx hb hts wi_M hown hK hP 0 rfl rfl 9 (by decide) (hts _ kw_282) (fun _ h9 => h9) rfl d_M_settle_259 ?_
              exact W.iret (v := nI t.1) hx hb hr (fun t9 ht hW => ⟨⟨nI t.1, (), rfl, by rw [← hF], by rw [ht]; exact by rw [← hF]; exact hP, va_K.moved hW.alike hK, by rw [← hF]; exact hD⟩, hS.F ht⟩) hS.2.2 d_M_settle_262
            · exact absurd rfl c73
          · exact absurd rfl c72
        · replace c71 := mt (lg_cmp_ge _ _).mpr c71
          exact absurd (cz_end h1 hsi hcz) c71
      have inner : ∀ (k2 i : Nat) (ls : Array Slot), i + 1 + k2 = n → lv_has ls 6 [(0, .ref (ad 0)), (1, .int (nI 1)), (2, .int (nI (am t.2.1 i))), (3, .int (nI (ax t.2.1 i))), (4, .int (nI (i + 1)))] → W p l e (headSpec (.code y_M_settle b_M_settle 6 (some .int) :: wAll) ({ frames := 0, cells := 0, slots := 0, locals := 0 } : Room)).room s m ([.ref (ad 0)] : List Value).toArray below meth c H locs 0 0 (MQ below (va_Qi (fun (z : Int32) (_ : Unit) => z = nI (trs n 14 (0, cpy n po op, pr, pe, pm)).1) (mu_B (dC, dI) vwCl [(cI, .int), (cJ, .long)] A (md_w ad cI cJ 0 n ((trs n 14 (0, cpy n po op, pr, pe, pm)).1) ki ra (cpy n (fun _ => 0) po) (cpy n (fun q => se q + po q) se) bc bs ((trs n 14 (0, cpy n po op, pr, pe, pm)).2.1) ((trs n 14 (0, cpy n po op, pr, pe, pm)).2.2.1) ((trs n 14 (0, cpy n po op, pr, pe, pm)).2.2.2.1) ((trs n 14 (0, cpy n po op, pr, pe, pm)).2.2.2.2))) A) ([.ref (ad 0)] : List Value).toArray s 0 0 A) (F0 m 73 ls []) := by
        intro k2
        induction k2 with
        | zero =>
          intro i ls hi hl
          have h5 := am_le t.2.1 i
          have h6 := ax_le t.2.1 i
          refine lv_iload hx hb d_M_settle_73 (lv_at hl 4 rfl) ?_
          refine lv_aload_n hx hb d_M_settle_75 rfl (lv_at hl 0 rfl) ?_
          refine va_get (D := (dC, dI)) (ci := 1) (v := .int (nI n)) (C := "ClearingBooksModel") (T := T_M) (N := 13) hx hb hts wi_M hown hK hP 0 rfl rfl 1 (by decide) (hts _ kw_274) (fun _ h9 => h9) rfl d_M_settle_76 ?_
          refine lv_icmp_ge (tgt := 136) hx hb d_M_settle_79 (by decide) (fun c91 => ?_) (fun c91 => ?_)
          · replace c91 := (nI_leI (by omega) (by omega)).mp c91
            obtain rfl : n = i + 1 := by omega
            exact tail ls (lv_sub hl [0, 1, 2, 3, 4] rfl)
          · replace c91 := mt (nI_leI (by omega) (by omega)).mpr c91
            exfalso; omega
        | succ k2 ih2 =>
          intro i ls hi hl
          have h5 := am_le t.2.1 i
          have h6 := ax_le t.2.1 i
          refine lv_iload hx hb d_M_settle_73 (lv_at hl 4 rfl) ?_
          refine lv_aload_n hx hb d_M_settle_75 rfl (lv_at hl 0 rfl) ?_
          refine va_get (D := (dC, dI)) (ci := 1) (v := .int (nI n)) (C := "ClearingBooksModel") (T := T_M) (N := 13) hx hb hts wi_M hown hK hP 0 rfl rfl 1 (by decide) (hts _ kw_274) (fun _ h9 => h9) rfl d_M_settle_76 ?_
          refine lv_icmp_ge (tgt := 136) hx hb d_M_settle_79 (by decide) (fun c91 => ?_) (fun c91 => ?_)
          · replace c91 := (nI_leI (by omega) (by omega)).mp c91
            exfalso; omega
          · replace c91 := mt (nI_leI (by omega) (by omega)).mpr c91
            refine lv_aload_n hx hb d_M_settle_82 rfl (lv_at hl 0 rfl) ?_
            refine va_get (D := (dC, dI)) (ci := 1) (v := .ref (ad 7)) (C := "ClearingBooksModel") (T := T_M) (N := 13) hx hb hts wi_M hown hK hP 0 rfl rfl 8 (by decide) (hts _ kw_281) (fun _ h9 => h9) rfl d_M_settle_83 ?_
            refine lv_iload hx hb d_M_settle_86 (lv_at hl 4 rfl) ?_
            refine xa_laload (f := t.2.1) hx hb hK hP 7 1 rfl rfl (j := i + 1) (by omega) (by decide) d_M_settle_88 ?_
            refine lv_aload_n hx hb d_M_settle_89 rfl (lv_at hl 0 rfl) ?_
            refine va_get (D := (dC, dI)) (ci := 1) (v := .ref (ad 7)) (C := "ClearingBooksModel") (T := T_M) (N := 13) hx hb hts wi_M hown hK hP 0 rfl rfl 8 (by decide) (hts _ kw_281) (fun _ h9 => h9) rfl d_M_settle_90 ?_
            refine lv_iload_n hx hb d_M_settle_93 rfl (lv_at hl 2 rfl) ?_
            refine xa_laload (f := t.2.1) hx hb hK hP 7 1 rfl rfl (j := am t.2.1 i) (by omega) (by decide) d_M_settle_94 ?_
            refine W.lcmp hx hb d_M_settle_95 ?_
            refine lv_if_ge (tgt := 104) hx hb d_M_settle_96 (by decide) (fun c92 => ?_) (fun c92 => ?_)
            · replace c92 := (lg_cmp_ge _ _).mp c92
              refine lv_iload_n hx hb d_M_settle_104 rfl (lv_at hl 2 rfl) ?_
              refine lv_istore_n (lv' := [(2, .int (nI (am t.2.1 i))), (0, .ref (ad 0)), (1, .int (nI 1)), (3, .int (nI (ax t.2.1 i))), (4, .int (nI (i + 1)))]) hx hb d_M_settle_105 rfl hl (by decide) rfl (fun ls hl => ?_)
              refine lv_aload_n hx hb d_M_settle_106 rfl (lv_at hl 1 rfl) ?_
              refine va_get (D := (dC, dI)) (ci := 1) (v := .ref (ad 7)) (C := "ClearingBooksModel") (T := T_M) (N := 13) hx hb hts wi_M hown hK hP 0 rfl rfl 8 (by decide) (hts _ kw_281) (fun _ h9 => h9) rfl d_M_settle_107 ?_
              refine lv_iload hx hb d_M_settle_110 (lv_at hl 4 rfl) ?_
              refine xa_laload (f := t.2.1) hx hb hK hP 7 1 rfl rfl (j := i + 1) (by omega) (by decide) d_M_settle_112 ?_
              refine lv_aload_n hx hb d_M_settle_113 rfl (lv_at hl 1 rfl) ?_
              refine va_get (D := (dC, dI)) (ci := 1) (v := .ref (ad 7)) (C := "ClearingBooksModel") (T := T_M) (N := 13) hx hb hts wi_M hown hK hP 0 rfl rfl 8 (by decide) (hts _ kw_281) (fun _ h9 => h9) rfl d_M_settle_114 ?_
              refine lv_iload_n hx hb d_M_settle_117 rfl (lv_at hl 3 rfl) ?_
              refine xa_laload (f := t.2.1) hx hb hK hP 7 1 rfl rfl (j := ax t.2.1 i) (by omega) (by decide) d_M_settle_118 ?_
              refine W.lcmp hx hb d_M_settle_119 ?_
              refine lv_if_le (tgt := 128) hx hb d_M_settle_120 (by decide) (fun c93 => ?_) (fun c93 => ?_)
              · replace c93 := (lg_cmp_le _ _).mp c93
                refine lv_iload_n hx hb d_M_settle_128 rfl (lv_at hl 3 rfl) ?_
                refine lv_istore_n (lv' := [(3, .int (nI (ax t.2.1 i))), (2, .int (nI (am t.2.1 i))), (0, .ref (ad 0)), (1, .int (nI 1)), (4, .int (nI (i + 1)))]) hx hb d_M_settle_129 rfl hl (by decide) rfl (fun ls hl => ?_)
                refine lv_iinc (v := nI (i + 1 + 1)) (lv' := [(4, .int (nI (i + 1 + 1))), (3, .int (nI (ax t.2.1 i))), (2, .int (nI (am t.2.1 i))), (0, .ref (ad 0)), (1, .int (nI 1))]) hx hb d_M_settle_130 hl (k := 4) rfl (nI_1 (i + 1)) (by decide) rfl (fun ls hl => ?_)
                refine lv_goto (tgt := 73) hx hb d_M_settle_133 (by decide) ?_
                have ea : am t.2.1 (i + 1) = am t.2.1 i := am_y (by assumption)
                have eb : ax t.2.1 (i + 1) = ax t.2.1 i := ax_y (by assumption)
                exact ih2 (i + 1) ls (by omega) (by rw [ea, eb]; exact lv_sub hl [3, 4, 2, 1, 0] rfl)
              · replace c93 := mt (lg_cmp_le _ _).mpr c93
                refine lv_iload hx hb d_M_settle_123 (lv_at hl 4 rfl) ?_
                refine lv_goto (tgt := 129) hx hb d_M_settle_125 (by decide) ?_
                refine lv_istore_n (lv' := [(3, .int (nI (i + 1))), (2, .int (nI (am t.2.1 i))), (0, .ref (ad 0)), (1, .int (nI 1)), (4, .int (nI (i + 1)))]) hx hb d_M_settle_129 rfl hl (by decide) rfl (fun ls hl => ?_)
                refine lv_iinc (v := nI (i + 1 + 1)) (lv' := [(4, .int (nI (i + 1 + 1))), (3, .int (nI (i + 1))), (2, .int (nI (am t.2.1 i))), (0, .ref (ad 0)), (1, .int (nI 1))]) hx hb d_M_settle_130 hl (k := 4) rfl (nI_1 (i + 1)) (by decide) rfl (fun ls hl => ?_)
                refine lv_goto (tgt := 73) hx hb d_M_settle_133 (by decide) ?_
                have ea : am t.2.1 (i + 1) = am t.2.1 i := am_y (by assumption)
                have eb : ax t.2.1 (i + 1) = i + 1 := ax_n (by assumption)
                exact ih2 (i + 1) ls (by omega) (by rw [ea, eb]; exact lv_sub hl [3, 4, 2, 1, 0] rfl)
            · replace c92 := mt (lg_cmp_ge _ _).mpr c92
              refine lv_iload hx hb d_M_settle_99 (lv_at hl 4 rfl) ?_
              refine lv_goto (tgt := 105) hx hb d_M_settle_101 (by decide) ?_
              refine lv_istore_n (lv' := [(2, .int (nI (i + 1))), (0, .ref (ad 0)), (1, .int (nI 1)), (3, .int (nI (ax t.2.1 i))), (4, .int (nI (i + 1)))]) hx hb d_M_settle_105 rfl hl (by decide) rfl (fun ls hl => ?_)
              refine lv_aload_n hx hb d_M_settle_106 rfl (lv_at hl 1 rfl) ?_
              refine va_get (D := (dC, dI)) (ci := 1) (v := .ref (ad 7)) (C := "ClearingBooksModel") (T := T_M) (N := 13) hx hb hts wi_M hown hK hP 0 rfl rfl 8 (by decide) (hts _ kw_281) (fun _ h9 => h9) rfl d_M_settle_107 ?_
              refine lv_iload hx hb d_M_settle_110 (lv_at hl 4 rfl) ?_
              refine xa_laload (f := t.2.1) hx hb hK hP 7 1 rfl rfl (j := i + 1) (by omega) (by decide) d_M_settle_112 ?_
              refine lv_aload_n hx hb d_M_settle_113 rfl (lv_at hl 1 rfl) ?_
              refine va_get (D := (dC, dI)) (ci := 1) (v := .ref (ad 7)) (C := "ClearingBooksModel") (T := T_M) (N := 13) hx hb hts wi_M hown hK hP 0 rfl rfl 8 (by decide) (hts _ kw_281) (fun _ h9 => h9) rfl d_M_settle_114 ?_
              refine lv_iload_n hx hb d_M_settle_117 rfl (lv_at hl 3 rfl) ?_
              refine xa_laload (f := t.2.1) hx hb hK hP 7 1 rfl rfl (j := ax t.2.1 i) (by omega) (by decide) d_M_settle_118 ?_
              refine W.lcmp hx hb d_M_settle_119 ?_
              refine lv_if_le (tgt := 128) hx hb d_M_settle_120 (by decide) (fun c94 => ?_) (fun c94 => ?_)
              · replace c94 := (lg_cmp_le _ _).mp c94
                refine lv_iload_n hx hb d_M_settle_128 rfl (lv_at hl 3 rfl) ?_
                refine lv_istore_n (lv' := [(3, .int (nI (ax t.2.1 i))), (2, .int (nI (i + 1))), (0, .ref (ad 0)), (1, .int (nI 1)), (4, .int (nI (i + 1)))]) hx hb d_M_settle_129 rfl hl (by decide) rfl (fun ls hl => ?_)
                refine lv_iinc (v := nI (i + 1 + 1)) (lv' := [(4, .int (nI (i + 1 + 1))), (3, .int (nI (ax t.2.1 i))), (2, .int (nI (i + 1))), (0, .ref (ad 0)), (1, .int (nI 1))]) hx hb d_M_settle_130 hl (k := 4) rfl (nI_1 (i + 1)) (by decide) rfl (fun ls hl => ?_)
                refine lv_goto (tgt := 73) hx hb d_M_settle_133 (by decide) ?_
                have ea : am t.2.1 (i + 1) = i + 1 := am_n (by assumption)
                have eb : ax t.2.1 (i + 1) = ax t.2.1 i := ax_y (by assumption)
                exact ih2 (i + 1) ls (by omega) (by rw [ea, eb]; exact lv_sub hl [3, 4, 2, 1, 0] rfl)
              · replace c94 := mt (lg_cmp_le _ _).mpr c94
                refine lv_iload hx hb d_M_settle_123 (lv_at hl 4 rfl) ?_
                refine lv_goto (tgt := 129) hx hb d_M_settle_125 (by decide) ?_
                refine lv_istore_n (lv' := [(3, .int (nI (i + 1))), (2, .int (nI (i + 1))), (0, .ref (ad 0)), (1, .int (nI 1)), (4, .int (nI (i + 1)))]) hx hb d_M_settle_129 rfl hl (by decide) rfl (fun ls hl => ?_)
                refine lv_iinc (v := nI (i + 1 + 1)) (lv' := [(4, .int (nI (i + 1 + 1))), (3, .int (nI (i + 1))), (2, .int (nI (i + 1))), (0, .ref (ad 0)), (1, .int (nI 1))]) hx hb d_M_settle_130 hl (k := 4) rfl (nI_1 (i + 1)) (by decide) rfl (fun ls hl => ?_)
                refine lv_goto (tgt := 73) hx hb d_M_settle_133 (by decide) ?_
                have ea : am t.2.1 (i + 1) = i + 1 := am_n (by assumption)
                have eb : ax t.2.1 (i + 1) = i + 1 := ax_n (by assumption)
                exact ih2 (i + 1) ls (by omega) (by rw [ea, eb]; exact lv_sub hl [3, 4, 2, 1, 0] rfl)
      refine lv_iload_n hx hb d_M_settle_62 rfl (lv_at hl 1 rfl) ?_
      refine lv_if_eq (tgt := 258) hx hb d_M_settle_63 (by decide) (fun c111 => ?_) (fun c111 => ?_)
      · exact absurd c111 (by decide)
      · refine lv_iconst (v := nI 0) hx hb d_M_settle_66 (by decide) ?_
        refine lv_istore_n (lv' := [(2, .int (nI 0)), (0, .ref (ad 0)), (1, .int (nI 1))]) hx hb d_M_settle_67 rfl hl (by decide) rfl (fun ls hl => ?_)
        refine lv_iconst (v := nI 0) hx hb d_M_settle_68 (by decide) ?_
        refine lv_istore_n (lv' := [(3, .int (nI 0)), (2, .int (nI 0)), (0, .ref (ad 0)), (1, .int (nI 1))]) hx hb d_M_settle_69 rfl hl (by decide) rfl (fun ls hl => ?_)
        refine lv_iconst (v := nI 1) hx hb d_M_settle_70 (by decide) ?_
        refine lv_istore (lv' := [(4, .int (nI 1)), (3, .int (nI 0)), (2, .int (nI 0)), (0, .ref (ad 0)), (1, .int (nI 1))]) hx hb d_M_settle_71 hl (by decide) rfl (fun ls hl => ?_)
        exact inner (n - 1) 0 ls (by omega) (lv_sub hl [3, 4, 2, 1, 0] rfl)
    | succ k ih =>
      intro t H locs ls z hk hF hsi hsm hcz hP hD hS hl
      replace hl := lv_sub (l' := [(0, .ref (ad 0)), (1, .int (nI 1))]) hl [0, 1] rfl
      have h7 := am_le t.2.1 (n - 1)
      have h8 := ax_le t.2.1 (n - 1)
      have tail : ∀ (ls : Array Slot), lv_has ls 6 [(0, .ref (ad 0)), (1, .int (nI 1)), (2, .int (nI (am t.2.1 (n - 1)))), (3, .int (nI (ax t.2.1 (n - 1)))), (4, .int (nI n))] → W p l e (headSpec (.code y_M_settle b_M_settle 6 (some .int) :: wAll) ({ frames := 0, cells := 0, slots := 0, locals := 0 } : Room)).room s m ([.ref (ad 0)] : List Value).toArray below meth c H locs 0 0 (MQ below (va_Qi (fun (z : Int32) (_ : Unit) => z = nI (trs n 14 (0, cpy n po op, pr, pe, pm)).1) (mu_B (dC, dI) vwCl [(cI, .int), (cJ, .long)] A (md_w ad cI cJ 0 n ((trs n 14 (0, cpy n po op, pr, pe, pm)).1) ki ra (cpy n (fun _ => 0) po) (cpy n (fun q => se q + po q) se) bc bs ((trs n 14 (0, cpy n po op, pr, pe, pm)).2.1) ((trs n 14 (0, cpy n po op, pr, pe, pm)).2.2.1) ((trs n 14 (0, cpy n po op, pr, pe, pm)).2.2.2.1) ((trs n 14 (0, cpy n po op, pr, pe, pm)).2.2.2.2))) A) ([.ref (ad 0)] : List Value).toArray s 0 0 A) (F0 m 136 ls []) := by
        intro ls hl
        refine lv_aload_n hx hb d_M_settle_136 rfl (lv_at hl 0 rfl) ?_
        refine va_get (D := (dC, dI)) (ci := 1) (v := .ref (ad 7)) (C := "ClearingBooksModel") (T := T_M) (N := 13) hx hb hts wi_M hown hK hP 0 rfl rfl 8 (by decide) (hts _ kw_281) (fun _ h9 => h9) rfl d_M_settle_137 ?_
        refine lv_iload_n hx hb d_M_settle_140 rfl (lv_at hl 2 rfl) ?_
        refine xa_laload (f := t.2.1) hx hb hK hP 7 1 rfl rfl (j := am t.2.1 (n - 1)) (by omega) (by decide) d_M_settle_141 ?_
        refine lv_lconst (v := 0) hx hb d_M_settle_142 (by decide) ?_
        refine W.lcmp hx hb d_M_settle_143 ?_
        refine lv_if_ge (tgt := 151) hx hb d_M_settle_144 (by decide) (fun c71 => ?_) (fun c71 => ?_)
        · replace c71 := (lg_cmp_ge _ _).mp c71
          replace hF : t = (trs n 14 (0, cpy n po op, pr, pe, pm)) := by rw [← hF, trs, if_pos c71]
          refine lv_iconst (v := nI 0) hx hb d_M_settle_151 (by decide) ?_
          refine lv_istore_n (lv' := [(1, .int (nI 0)), (0, .ref (ad 0)), (2, .int (nI (am t.2.1 (n - 1)))), (3, .int (nI (ax t.2.1 (n - 1)))), (4, .int (nI n))]) hx hb d_M_settle_152 rfl hl (by decide) rfl (fun ls hl => ?_)
          refine lv_iload_n hx hb d_M_settle_153 rfl (lv_at hl 0 rfl) ?_
          refine lv_if_eq (tgt := 255) hx hb d_M_settle_154 (by decide) (fun c72 => ?_) (fun c72 => ?_)
          · refine lv_goto (tgt := 62) hx hb d_M_settle_255 (by decide) ?_
            refine lv_iload_n hx hb d_M_settle_62 rfl (lv_at hl 0 rfl) ?_
            refine lv_if_eq (tgt := 258) hx hb d_M_settle_63 (by decide) (fun c73 => ?_) (fun c73 => ?_)
            · refine lv_aload_n hx hb d_M_settle_258 rfl (lv_at hl 1 rfl) ?_
              refine va_get (D := (dC, dI)) (ci := 1) (v := .int (nI t.1)) (C := "ClearingBooksModel") (T := T_M) (N := 13) hx hb hts wi_M hown hK hP 0 rfl rfl 9 (by decide) (hts _ kw_282) (fun _ h9 => h9) rfl d_M_settle_259 ?_
              exact W.iret (v := nI t.1) hx hb hr (fun t9 ht hW => ⟨⟨nI t.1, (), rfl, by rw [← hF], by rw [ht]; exact by rw [← hF]; exact hP, va_K.moved hW.alike hK, by rw [← hF]; exact hD⟩, hS.F ht⟩) hS.2.2 d_M_settle_262
            · exact absurd rfl c73
          · exact absurd rfl c72
        · replace c71 := mt (lg_cmp_ge _ _).mpr c71
          replace hF : trs n k (tr1 n t) = (trs n 14 (0, cpy n po op, pr, pe, pm)) := by rw [← hF, trs, if_neg c71]
          obtain ⟨b1, b2, b3⟩ := tr_step h1 hsi hsm c71
          refine lv_iconst (v := nI 1) hx hb d_M_settle_147 (by decide) ?_
          refine lv_goto (tgt := 152) hx hb d_M_settle_148 (by decide) ?_
          refine lv_istore_n (lv' := [(1, .int (nI 1)), (0, .ref (ad 0)), (2, .int (nI (am t.2.1 (n - 1)))), (3, .int (nI (ax t.2.1 (n - 1)))), (4, .int (nI n))]) hx hb d_M_settle_152 rfl hl (by decide) rfl (fun ls hl => ?_)
          refine lv_iload_n hx hb d_M_settle_153 rfl (lv_at hl 0 rfl) ?_
          refine lv_if_eq (tgt := 255) hx hb d_M_settle_154 (by decide) (fun c73 => ?_) (fun c73 => ?_)
          · exact absurd c73 (by decide)
          · refine lv_aload_n hx hb d_M_settle_157 rfl (lv_at hl 1 rfl) ?_
            refine va_get (D := (dC, dI)) (ci := 1) (v := .ref (ad 7)) (C := "ClearingBooksModel") (T := T_M) (N := 13) hx hb hts wi_M hown hK hP 0 rfl rfl 8 (by decide) (hts _ kw_281) (fun _ h9 => h9) rfl d_M_settle_158 ?_
            refine lv_iload_n hx hb d_M_settle_161 rfl (lv_at hl 2 rfl) ?_
            refine xa_laload (f := t.2.1) hx hb hK hP 7 1 rfl rfl (j := am t.2.1 (n - 1)) (by omega) (by decide) d_M_settle_162 ?_
            refine lv_lneg hx hb d_M_settle_163 ?_
            refine lv_aload_n hx hb d_M_settle_164 rfl (lv_at hl 1 rfl) ?_
            refine va_get (D := (dC, dI)) (ci := 1) (v := .ref (ad 7)) (C := "ClearingBooksModel") (T := T_M) (N := 13) hx hb hts wi_M hown hK hP 0 rfl rfl 8 (by decide) (hts _ kw_281) (fun _ h9 => h9) rfl d_M_settle_165 ?_
            refine lv_iload_n hx hb d_M_settle_168 rfl (lv_at hl 3 rfl) ?_
            refine xa_laload (f := t.2.1) hx hb hK hP 7 1 rfl rfl (j := ax t.2.1 (n - 1)) (by omega) (by decide) d_M_settle_169 ?_
            refine W.lcmp hx hb d_M_settle_170 ?_
            refine lv_if_ge (tgt := 184) hx hb d_M_settle_171 (by decide) (fun c74 => ?_) (fun c74 => ?_)
            · replace c74 := (lg_cmp_ge _ _).mp c74
              refine lv_aload_n hx hb d_M_settle_184 rfl (lv_at hl 1 rfl) ?_
              refine va_get (D := (dC, dI)) (ci := 1) (v := .ref (ad 7)) (C := "ClearingBooksModel") (T := T_M) (N := 13) hx hb hts wi_M hown hK hP 0 rfl rfl 8 (by decide) (hts _ kw_281) (fun _ h9 => h9) rfl d_M_settle_185 ?_
              refine lv_iload_n hx hb d_M_settle_188 rfl (lv_at hl 3 rfl) ?_
              refine xa_laload (f := t.2.1) hx hb hK hP 7 1 rfl rfl (j := ax t.2.1 (n - 1)) (by omega) (by decide) d_M_settle_189 ?_
              refine lv_topl (fun v9 e9 => ?_)
              obtain rfl : v9 = pay t.2.1 (am t.2.1 (n - 1)) (ax t.2.1 (n - 1)) := by rw [e9]; first | exact pay_of (by assumption) | exact pay_of2 (by assumption)
              refine lv_lstore (lv' := [(4, .long (pay t.2.1 (am t.2.1 (n - 1)) (ax t.2.1 (n - 1)))), (1, .int (nI 1)), (0, .ref (ad 0)), (2, .int (nI (am t.2.1 (n - 1)))), (3, .int (nI (ax t.2.1 (n - 1))))]) hx hb d_M_settle_190 hl (by decide) rfl (fun ls hl => ?_)
              refine lv_aload_n hx hb d_M_settle_192 rfl (lv_at hl 2 rfl) ?_
              refine va_get (D := (dC, dI)) (ci := 1) (v := .ref (ad 7)) (C := "ClearingBooksModel") (T := T_M) (N := 13) hx hb hts wi_M hown hK hP 0 rfl rfl 8 (by decide) (hts _ kw_281) (fun _ h9 => h9) rfl d_M_settle_193 ?_
              refine lv_iload_n hx hb d_M_settle_196 rfl (lv_at hl 3 rfl) ?_
              refine lv_dup2_11 hx hb d_M_settle_197 rfl rfl ?_
              refine xa_laload (f := t.2.1) hx hb hK hP 7 1 rfl rfl (j := am t.2.1 (n - 1)) (by omega) (by decide) d_M_settle_198 ?_
              refine lv_lload hx hb d_M_settle_199 (lv_at hl 0 rfl) ?_
              refine lv_ladd hx hb d_M_settle_201 ?_
              refine xa_lastore (f := t.2.1) (x := (t.2.1 (am t.2.1 (n - 1))) + (pay t.2.1 (am t.2.1 (n - 1)) (ax t.2.1 (n - 1)))) hx hb hK hP hD hS 7 1 rfl rfl (j := am t.2.1 (n - 1)) (by omega) (by decide) d_M_settle_202 (fun H locs hP hD hS => ?_)
              have hP : va_P (dC, dI) vwCl (md_w ad cI cJ 0 n t.1 ki ra (cpy n (fun _ => 0) po) (cpy n (fun q => se q + po q) se) bc bs (vp_updL t.2.1 (am t.2.1 (n - 1)) ((t.2.1 (am t.2.1 (n - 1))) + (pay t.2.1 (am t.2.1 (n - 1)) (ax t.2.1 (n - 1))))) t.2.2.1 t.2.2.2.1 t.2.2.2.2) H := hP
              have hD : va_D A (md_w ad cI cJ 0 n t.1 ki ra (cpy n (fun _ => 0) po) (cpy n (fun q => se q + po q) se) bc bs (vp_updL t.2.1 (am t.2.1 (n - 1)) ((t.2.1 (am t.2.1 (n - 1))) + (pay t.2.1 (am t.2.1 (n - 1)) (ax t.2.1 (n - 1))))) t.2.2.1 t.2.2.2.1 t.2.2.2.2) := hD
              refine lv_aload_n hx hb d_M_settle_203 rfl (lv_at hl 2 rfl) ?_
              refine va_get (D := (dC, dI)) (ci := 1) (v := .ref (ad 7)) (C := "ClearingBooksModel") (T := T_M) (N := 13) hx hb hts wi_M hown hK hP 0 rfl rfl 8 (by decide) (hts _ kw_281) (fun _ h9 => h9) rfl d_M_settle_204 ?_
              refine lv_iload_n hx hb d_M_settle_207 rfl (lv_at hl 4 rfl) ?_
              refine lv_dup2_11 hx hb d_M_settle_208 rfl rfl ?_
              refine xa_laload (f := vp_updL t.2.1 (am t.2.1 (n - 1)) ((t.2.1 (am t.2.1 (n - 1))) + (pay t.2.1 (am t.2.1 (n - 1)) (ax t.2.1 (n - 1))))) hx hb hK hP 7 1 rfl rfl (j := ax t.2.1 (n - 1)) (by omega) (by decide) d_M_settle_209 ?_
              refine lv_lload hx hb d_M_settle_210 (lv_at hl 0 rfl) ?_
              refine lv_lsub hx hb d_M_settle_212 ?_
              refine xa_lastore (f := vp_updL t.2.1 (am t.2.1 (n - 1)) ((t.2.1 (am t.2.1 (n - 1))) + (pay t.2.1 (am t.2.1 (n - 1)) (ax t.2.1 (n - 1))))) (x := ((vp_updL t.2.1 (am t.2.1 (n - 1)) ((t.2.1 (am t.2.1 (n - 1))) + (pay t.2.1 (am t.2.1 (n - 1)) (ax t.2.1 (n - 1))))) (ax t.2.1 (n - 1))) - (pay t.2.1 (am t.2.1 (n - 1)) (ax t.2.1 (n - 1)))) hx hb hK hP hD hS 7 1 rfl rfl (j := ax t.2.1 (n - 1)) (by omega) (by decide) d_M_settle_213 (fun H locs hP hD hS => ?_)
              have hP : va_P (dC, dI) vwCl (md_w ad cI cJ 0 n t.1 ki ra (cpy n (fun _ => 0) po) (cpy n (fun q => se q + po q) se) bc bs (vp_updL (vp_updL t.2.1 (am t.2.1 (n - 1)) ((t.2.1 (am t.2.1 (n - 1))) + (pay t.2.1 (am t.2.1 (n - 1)) (ax t.2.1 (n - 1))))) (ax t.2.1 (n - 1)) (((vp_updL t.2.1 (am t.2.1 (n - 1)) ((t.2.1 (am t.2.1 (n - 1))) + (pay t.2.1 (am t.2.1 (n - 1)) (ax t.2.1 (n - 1))))) (ax t.2.1 (n - 1))) - (pay t.2.1 (am t.2.1 (n - 1)) (ax t.2.1 (n - 1))))) t.2.2.1 t.2.2.2.1 t.2.2.2.2) H := hP
              have hD : va_D A (md_w ad cI cJ 0 n t.1 ki ra (cpy n (fun _ => 0) po) (cpy n (fun q => se q + po q) se) bc bs (vp_updL (vp_updL t.2.1 (am t.2.1 (n - 1)) ((t.2.1 (am t.2.1 (n - 1))) + (pay t.2.1 (am t.2.1 (n - 1)) (ax t.2.1 (n - 1))))) (ax t.2.1 (n - 1)) (((vp_updL t.2.1 (am t.2.1 (n - 1)) ((t.2.1 (am t.2.1 (n - 1))) + (pay t.2.1 (am t.2.1 (n - 1)) (ax t.2.1 (n - 1))))) (ax t.2.1 (n - 1))) - (pay t.2.1 (am t.2.1 (n - 1)) (ax t.2.1 (n - 1))))) t.2.2.1 t.2.2.2.1 t.2.2.2.2) := hD
              refine lv_aload_n hx hb d_M_settle_214 rfl (lv_at hl 2 rfl) ?_
              refine va_get (D := (dC, dI)) (ci := 1) (v := .ref (ad 8)) (C := "ClearingBooksModel") (T := T_M) (N := 13) hx hb hts wi_M hown hK hP 0 rfl rfl 10 (by decide) (hts _ kw_283) (fun _ h9 => h9) rfl d_M_settle_215 ?_
              refine lv_aload_n hx hb d_M_settle_218 rfl (lv_at hl 2 rfl) ?_
              refine va_get (D := (dC, dI)) (ci := 1) (v := .int (nI t.1)) (C := "ClearingBooksModel") (T := T_M) (N := 13) hx hb hts wi_M hown hK hP 0 rfl rfl 9 (by decide) (hts _ kw_282) (fun _ h9 => h9) rfl d_M_settle_219 ?_
              refine lv_iload_n hx hb d_M_settle_222 rfl (lv_at hl 3 rfl) ?_
              refine xa_iastore (f := t.2.2.1) (x := nI (am t.2.1 (n - 1))) hx hb hK hP hD hS 8 0 rfl rfl (j := t.1) (by omega) (by decide) d_M_settle_223 (fun H locs hP hD hS => ?_)
              have hP : va_P (dC, dI) vwCl (md_w ad cI cJ 0 n t.1 ki ra (cpy n (fun _ => 0) po) (cpy n (fun q => se q + po q) se) bc bs (vp_updL (vp_updL t.2.1 (am t.2.1 (n - 1)) ((t.2.1 (am t.2.1 (n - 1))) + (pay t.2.1 (am t.2.1 (n - 1)) (ax t.2.1 (n - 1))))) (ax t.2.1 (n - 1)) (((vp_updL t.2.1 (am t.2.1 (n - 1)) ((t.2.1 (am t.2.1 (n - 1))) + (pay t.2.1 (am t.2.1 (n - 1)) (ax t.2.1 (n - 1))))) (ax t.2.1 (n - 1))) - (pay t.2.1 (am t.2.1 (n - 1)) (ax t.2.1 (n - 1))))) (upd t.2.2.1 t.1 (nI (am t.2.1 (n - 1)))) t.2.2.2.1 t.2.2.2.2) H := hP
              have hD : va_D A (md_w ad cI cJ 0 n t.1 ki ra (cpy n (fun _ => 0) po) (cpy n (fun q => se q + po q) se) bc bs (vp_updL (vp_updL t.2.1 (am t.2.1 (n - 1)) ((t.2.1 (am t.2.1 (n - 1))) + (pay t.2.1 (am t.2.1 (n - 1)) (ax t.2.1 (n - 1))))) (ax t.2.1 (n - 1)) (((vp_updL t.2.1 (am t.2.1 (n - 1)) ((t.2.1 (am t.2.1 (n - 1))) + (pay t.2.1 (am t.2.1 (n - 1)) (ax t.2.1 (n - 1))))) (ax t.2.1 (n - 1))) - (pay t.2.1 (am t.2.1 (n - 1)) (ax t.2.1 (n - 1))))) (upd t.2.2.1 t.1 (nI (am t.2.1 (n - 1)))) t.2.2.2.1 t.2.2.2.2) := hD
              refine lv_aload_n hx hb d_M_settle_224 rfl (lv_at hl 2 rfl) ?_
              refine va_get (D := (dC, dI)) (ci := 1) (v := .ref (ad 9)) (C := "ClearingBooksModel") (T := T_M) (N := 13) hx hb hts wi_M hown hK hP 0 rfl rfl 11 (by decide) (hts _ kw_284) (fun _ h9 => h9) rfl d_M_settle_225 ?_
              refine lv_aload_n hx hb d_M_settle_228 rfl (lv_at hl 2 rfl) ?_
              refine va_get (D := (dC, dI)) (ci := 1) (v := .int (nI t.1)) (C := "ClearingBooksModel") (T := T_M) (N := 13) hx hb hts wi_M hown hK hP 0 rfl rfl 9 (by decide) (hts _ kw_282) (fun _ h9 => h9) rfl d_M_settle_229 ?_
              refine lv_iload_n hx hb d_M_settle_232 rfl (lv_at hl 4 rfl) ?_
              refine xa_iastore (f := t.2.2.2.1) (x := nI (ax t.2.1 (n - 1))) hx hb hK hP hD hS 9 0 rfl rfl (j := t.1) (by omega) (by decide) d_M_settle_233 (fun H locs hP hD hS => ?_)
              have hP : va_P (dC, dI) vwCl (md_w ad cI cJ 0 n t.1 ki ra (cpy n (fun _ => 0) po) (cpy n (fun q => se q + po q) se) bc bs (vp_updL (vp_updL t.2.1 (am t.2.1 (n - 1)) ((t.2.1 (am t.2.1 (n - 1))) + (pay t.2.1 (am t.2.1 (n - 1)) (ax t.2.1 (n - 1))))) (ax t.2.1 (n - 1)) (((vp_updL t.2.1 (am t.2.1 (n - 1)) ((t.2.1 (am t.2.1 (n - 1))) + (pay t.2.1 (am t.2.1 (n - 1)) (ax t.2.1 (n - 1))))) (ax t.2.1 (n - 1))) - (pay t.2.1 (am t.2.1 (n - 1)) (ax t.2.1 (n - 1))))) (upd t.2.2.1 t.1 (nI (am t.2.1 (n - 1)))) (upd t.2.2.2.1 t.1 (nI (ax t.2.1 (n - 1)))) t.2.2.2.2) H := hP
              have hD : va_D A (md_w ad cI cJ 0 n t.1 ki ra (cpy n (fun _ => 0) po) (cpy n (fun q => se q + po q) se) bc bs (vp_updL (vp_updL t.2.1 (am t.2.1 (n - 1)) ((t.2.1 (am t.2.1 (n - 1))) + (pay t.2.1 (am t.2.1 (n - 1)) (ax t.2.1 (n - 1))))) (ax t.2.1 (n - 1)) (((vp_updL t.2.1 (am t.2.1 (n - 1)) ((t.2.1 (am t.2.1 (n - 1))) + (pay t.2.1 (am t.2.1 (n - 1)) (ax t.2.1 (n - 1))))) (ax t.2.1 (n - 1))) - (pay t.2.1 (am t.2.1 (n - 1)) (ax t.2.1 (n - 1))))) (upd t.2.2.1 t.1 (nI (am t.2.1 (n - 1)))) (upd t.2.2.2.1 t.1 (nI (ax t.2.1 (n - 1)))) t.2.2.2.2) := hD
              refine lv_aload_n hx hb d_M_settle_234 rfl (lv_at hl 2 rfl) ?_
              refine va_get (D := (dC, dI)) (ci := 1) (v := .ref (ad 10)) (C := "ClearingBooksModel") (T := T_M) (N := 13) hx hb hts wi_M hown hK hP 0 rfl rfl 12 (by decide) (hts _ kw_285) (fun _ h9 => h9) rfl d_M_settle_235 ?_
              refine lv_aload_n hx hb d_M_settle_238 rfl (lv_at hl 2 rfl) ?_
              refine va_get (D := (dC, dI)) (ci := 1) (v := .int (nI t.1)) (C := "ClearingBooksModel") (T := T_M) (N := 13) hx hb hts wi_M hown hK hP 0 rfl rfl 9 (by decide) (hts _ kw_282) (fun _ h9 => h9) rfl d_M_settle_239 ?_
              refine lv_lload hx hb d_M_settle_242 (lv_at hl 0 rfl) ?_
              refine xa_lastore (f := t.2.2.2.2) (x := pay t.2.1 (am t.2.1 (n - 1)) (ax t.2.1 (n - 1))) hx hb hK hP hD hS 10 1 rfl rfl (j := t.1) (by omega) (by decide) d_M_settle_244 (fun H locs hP hD hS => ?_)
              have hP : va_P (dC, dI) vwCl (md_w ad cI cJ 0 n t.1 ki ra (cpy n (fun _ => 0) po) (cpy n (fun q => se q + po q) se) bc bs (vp_updL (vp_updL t.2.1 (am t.2.1 (n - 1)) ((t.2.1 (am t.2.1 (n - 1))) + (pay t.2.1 (am t.2.1 (n - 1)) (ax t.2.1 (n - 1))))) (ax t.2.1 (n - 1)) (((vp_updL t.2.1 (am t.2.1 (n - 1)) ((t.2.1 (am t.2.1 (n - 1))) + (pay t.2.1 (am t.2.1 (n - 1)) (ax t.2.1 (n - 1))))) (ax t.2.1 (n - 1))) - (pay t.2.1 (am t.2.1 (n - 1)) (ax t.2.1 (n - 1))))) (upd t.2.2.1 t.1 (nI (am t.2.1 (n - 1)))) (upd t.2.2.2.1 t.1 (nI (ax t.2.1 (n - 1)))) (vp_updL t.2.2.2.2 t.1 (pay t.2.1 (am t.2.1 (n - 1)) (ax t.2.1 (n - 1))))) H := hP
              have hD : va_D A (md_w ad cI cJ 0 n t.1 ki ra (cpy n (fun _ => 0) po) (cpy n (fun q => se q + po q) se) bc bs (vp_updL (vp_updL t.2.1 (am t.2.1 (n - 1)) ((t.2.1 (am t.2.1 (n - 1))) + (pay t.2.1 (am t.2.1 (n - 1)) (ax t.2.1 (n - 1))))) (ax t.2.1 (n - 1)) (((vp_updL t.2.1 (am t.2.1 (n - 1)) ((t.2.1 (am t.2.1 (n - 1))) + (pay t.2.1 (am t.2.1 (n - 1)) (ax t.2.1 (n - 1))))) (ax t.2.1 (n - 1))) - (pay t.2.1 (am t.2.1 (n - 1)) (ax t.2.1 (n - 1))))) (upd t.2.2.1 t.1 (nI (am t.2.1 (n - 1)))) (upd t.2.2.2.1 t.1 (nI (ax t.2.1 (n - 1)))) (vp_updL t.2.2.2.2 t.1 (pay t.2.1 (am t.2.1 (n - 1)) (ax t.2.1 (n - 1))))) := hD
              refine lv_aload_n hx hb d_M_settle_245 rfl (lv_at hl 2 rfl) ?_
              refine lv_dup hx hb d_M_settle_246 rfl ?_
              refine va_get (D := (dC, dI)) (ci := 1) (v := .int (nI t.1)) (C := "ClearingBooksModel") (T := T_M) (N := 13) hx hb hts wi_M hown hK hP 0 rfl rfl 9 (by decide) (hts _ kw_282) (fun _ h9 => h9) rfl d_M_settle_247 ?_
              refine lv_iconst (v := nI 1) hx hb d_M_settle_250 (by decide) ?_
              refine t_iadd hx hb d_M_settle_251 (v := nI (t.1 + 1)) (nI_add t.1 1) ?_
              refine va_put (D := (dC, dI)) (ci := 1) (v := .int (nI (t.1 + 1))) (ty := .int) (C := "ClearingBooksModel") (T := T_M) (N := 13) hx hb hts wi_M ty_M tyok_M nm_M hown hK hP hD hS 0 rfl rfl 9 (by decide) (hts _ kw_282) (fun _ h9 => h9) rfl (by decide +kernel) rfl rfl (Nat.le_of_ble_eq_true rfl) d_M_settle_252 (fun H locs hP hD hS => ?_)
              have hP : va_P (dC, dI) vwCl (md_w ad cI cJ 0 n (t.1 + 1) ki ra (cpy n (fun _ => 0) po) (cpy n (fun q => se q + po q) se) bc bs (vp_updL (vp_updL t.2.1 (am t.2.1 (n - 1)) ((t.2.1 (am t.2.1 (n - 1))) + (pay t.2.1 (am t.2.1 (n - 1)) (ax t.2.1 (n - 1))))) (ax t.2.1 (n - 1)) (((vp_updL t.2.1 (am t.2.1 (n - 1)) ((t.2.1 (am t.2.1 (n - 1))) + (pay t.2.1 (am t.2.1 (n - 1)) (ax t.2.1 (n - 1))))) (ax t.2.1 (n - 1))) - (pay t.2.1 (am t.2.1 (n - 1)) (ax t.2.1 (n - 1))))) (upd t.2.2.1 t.1 (nI (am t.2.1 (n - 1)))) (upd t.2.2.2.1 t.1 (nI (ax t.2.1 (n - 1)))) (vp_updL t.2.2.2.2 t.1 (pay t.2.1 (am t.2.1 (n - 1)) (ax t.2.1 (n - 1))))) H := hP
              have hD : va_D A (md_w ad cI cJ 0 n (t.1 + 1) ki ra (cpy n (fun _ => 0) po) (cpy n (fun q => se q + po q) se) bc bs (vp_updL (vp_updL t.2.1 (am t.2.1 (n - 1)) ((t.2.1 (am t.2.1 (n - 1))) + (pay t.2.1 (am t.2.1 (n - 1)) (ax t.2.1 (n - 1))))) (ax t.2.1 (n - 1)) (((vp_updL t.2.1 (am t.2.1 (n - 1)) ((t.2.1 (am t.2.1 (n - 1))) + (pay t.2.1 (am t.2.1 (n - 1)) (ax t.2.1 (n - 1))))) (ax t.2.1 (n - 1))) - (pay t.2.1 (am t.2.1 (n - 1)) (ax t.2.1 (n - 1))))) (upd t.2.2.1 t.1 (nI (am t.2.1 (n - 1)))) (upd t.2.2.2.1 t.1 (nI (ax t.2.1 (n - 1)))) (vp_updL t.2.2.2.2 t.1 (pay t.2.1 (am t.2.1 (n - 1)) (ax t.2.1 (n - 1))))) := hD
              refine lv_goto (tgt := 62) hx hb d_M_settle_255 (by decide) ?_
              exact ih (tr1 n t) H locs ls _ (by show t.1 + 1 + k = 14; omega) hF b1 b2 (by show cz (aft _ _ _) n ≤ k + 1; omega) hP hD hS (lv_sub (l' := [(0, .ref (ad 0)), (1, .int (nI 1))]) hl [2, 1] rfl)
            · replace c74 := mt (lg_cmp_ge _ _).mpr c74
              refine lv_aload_n hx hb d_M_settle_174 rfl (lv_at hl 1 rfl) ?_
              refine va_get (D := (dC, dI)) (ci := 1) (v := .ref (ad 7)) (C := "ClearingBooksModel") (T := T_M) (N := 13) hx hb hts wi_M hown hK hP 0 rfl rfl 8 (by decide) (hts _ kw_281) (fun _ h9 => h9) rfl d_M_settle_175 ?_
              refine lv_iload_n hx hb d_M_settle_178 rfl (lv_at hl 2 rfl) ?_
              refine xa_laload (f := t.2.1) hx hb hK hP 7 1 rfl rfl (j := am t.2.1 (n - 1)) (by omega) (by decide) d_M_settle_179 ?_
              refine lv_lneg hx hb d_M_settle_180 ?_
              refine lv_goto (tgt := 190) hx hb d_M_settle_181 (by decide) ?_
              refine lv_topl (fun v9 e9 => ?_)
              obtain rfl : v9 = pay t.2.1 (am t.2.1 (n - 1)) (ax t.2.1 (n - 1)) := by rw [e9]; first | exact pay_of (by assumption) | exact pay_of2 (by assumption)
              refine lv_lstore (lv' := [(4, .long (pay t.2.1 (am t.2.1 (n - 1)) (ax t.2.1 (n - 1)))), (1, .int (nI 1)), (0, .ref (ad 0)), (2, .int (nI (am t.2.1 (n - 1)))), (3, .int (nI (ax t.2.1 (n - 1))))]) hx hb d_M_settle_190 hl (by decide) rfl (fun ls hl => ?_)
              refine lv_aload_n hx hb d_M_settle_192 rfl (lv_at hl 2 rfl) ?_
              refine va_get (D := (dC, dI)) (ci := 1) (v := .ref (ad 7)) (C := "ClearingBooksModel") (T := T_M) (N := 13) hx hb hts wi_M hown hK hP 0 rfl rfl 8 (by decide) (hts _ kw_281) (fun _ h9 => h9) rfl d_M_settle_193 ?_
              refine lv_iload_n hx hb d_M_settle_196 rfl (lv_at hl 3 rfl) ?_
              refine lv_dup2_11 hx hb d_M_settle_197 rfl rfl ?_
              refine xa_laload (f := t.2.1) hx hb hK hP 7 1 rfl rfl (j := am t.2.1 (n - 1)) (by omega) (by decide) d_M_settle_198 ?_
              refine lv_lload hx hb d_M_settle_199 (lv_at hl 0 rfl) ?_
              refine lv_ladd hx hb d_M_settle_201 ?_
              refine xa_lastore (f := t.2.1) (x := (t.2.1 (am t.2.1 (n - 1))) + (pay t.2.1 (am t.2.1 (n - 1)) (ax t.2.1 (n - 1)))) hx hb hK hP hD hS 7 1 rfl rfl (j := am t.2.1 (n - 1)) (by omega) (by decide) d_M_settle_202 (fun H locs hP hD hS => ?_)
              have hP : va_P (dC, dI) vwCl (md_w ad cI cJ 0 n t.1 ki ra (cpy n (fun _ => 0) po) (cpy n (fun q => se q + po q) se) bc bs (vp_updL t.2.1 (am t.2.1 (n - 1)) ((t.2.1 (am t.2.1 (n - 1))) + (pay t.2.1 (am t.2.1 (n - 1)) (ax t.2.1 (n - 1))))) t.2.2.1 t.2.2.2.1 t.2.2.2.2) H := hP
              have hD : va_D A (md_w ad cI cJ 0 n t.1 ki ra (cpy n (fun _ => 0) po) (cpy n (fun q => se q + po q) se) bc bs (vp_updL t.2.1 (am t.2.1 (n - 1)) ((t.2.1 (am t.2.1 (n - 1))) + (pay t.2.1 (am t.2.1 (n - 1)) (ax t.2.1 (n - 1))))) t.2.2.1 t.2.2.2.1 t.2.2.2.2) := hD
              refine lv_aload_n hx hb d_M_settle_203 rfl (lv_at hl 2 rfl) ?_
              refine va_get (D := (dC, dI)) (ci := 1) (v := .ref (ad 7)) (C := "ClearingBooksModel") (T := T_M) (N := 13) hx hb hts wi_M hown hK hP 0 rfl rfl 8 (by decide) (hts _ kw_281) (fun _ h9 => h9) rfl d_M_settle_204 ?_
              refine lv_iload_n hx hb d_M_settle_207 rfl (lv_at hl 4 rfl) ?_
              refine lv_dup2_11 hx hb d_M_settle_208 rfl rfl ?_
              refine xa_laload (f := vp_updL t.2.1 (am t.2.1 (n - 1)) ((t.2.1 (am t.2.1 (n - 1))) + (pay t.2.1 (am t.2.1 (n - 1)) (ax t.2.1 (n - 1))))) hx hb hK hP 7 1 rfl rfl (j := ax t.2.1 (n - 1)) (by omega) (by decide) d_M_settle_209 ?_
              refine lv_lload hx hb d_M_settle_210 (lv_at hl 0 rfl) ?_
              refine lv_lsub hx hb d_M_settle_212 ?_
              refine xa_lastore (f := vp_updL t.2.1 (am t.2.1 (n - 1)) ((t.2.1 (am t.2.1 (n - 1))) + (pay t.2.1 (am t.2.1 (n - 1)) (ax t.2.1 (n - 1))))) (x := ((vp_updL t.2.1 (am t.2.1 (n - 1)) ((t.2.1 (am t.2.1 (n - 1))) + (pay t.2.1 (am t.2.1 (n - 1)) (ax t.2.1 (n - 1))))) (ax t.2.1 (n - 1))) - (pay t.2.1 (am t.2.1 (n - 1)) (ax t.2.1 (n - 1)))) hx hb hK hP hD hS 7 1 rfl rfl (j := ax t.2.1 (n - 1)) (by omega) (by decide) d_M_settle_213 (fun H locs hP hD hS => ?_)
              have hP : va_P (dC, dI) vwCl (md_w ad cI cJ 0 n t.1 ki ra (cpy n (fun _ => 0) po) (cpy n (fun q => se q + po q) se) bc bs (vp_updL (vp_updL t.2.1 (am t.2.1 (n - 1)) ((t.2.1 (am t.2.1 (n - 1))) + (pay t.2.1 (am t.2.1 (n - 1)) (ax t.2.1 (n - 1))))) (ax t.2.1 (n - 1)) (((vp_updL t.2.1 (am t.2.1 (n - 1)) ((t.2.1 (am t.2.1 (n - 1))) + (pay t.2.1 (am t.2.1 (n - 1)) (ax t.2.1 (n - 1))))) (ax t.2.1 (n - 1))) - (pay t.2.1 (am t.2.1 (n - 1)) (ax t.2.1 (n - 1))))) t.2.2.1 t.2.2.2.1 t.2.2.2.2) H := hP
              have hD : va_D A (md_w ad cI cJ 0 n t.1 ki ra (cpy n (fun _ => 0) po) (cpy n (fun q => se q + po q) se) bc bs (vp_updL (vp_updL t.2.1 (am t.2.1 (n - 1)) ((t.2.1 (am t.2.1 (n - 1))) + (pay t.2.1 (am t.2.1 (n - 1)) (ax t.2.1 (n - 1))))) (ax t.2.1 (n - 1)) (((vp_updL t.2.1 (am t.2.1 (n - 1)) ((t.2.1 (am t.2.1 (n - 1))) + (pay t.2.1 (am t.2.1 (n - 1)) (ax t.2.1 (n - 1))))) (ax t.2.1 (n - 1))) - (pay t.2.1 (am t.2.1 (n - 1)) (ax t.2.1 (n - 1))))) t.2.2.1 t.2.2.2.1 t.2.2.2.2) := hD
              refine lv_aload_n hx hb d_M_settle_214 rfl (lv_at hl 2 rfl) ?_
              refine va_get (D := (dC, dI)) (ci := 1) (v := .ref (ad 8)) (C := "ClearingBooksModel") (T := T_M) (N := 13) hx hb hts wi_M hown hK hP 0 rfl rfl 10 (by decide) (hts _ kw_283) (fun _ h9 => h9) rfl d_M_settle_215 ?_
              refine lv_aload_n hx hb d_M_settle_218 rfl (lv_at hl 2 rfl) ?_
              refine va_get (D := (dC, dI)) (ci := 1) (v := .int (nI t.1)) (C := "ClearingBooksModel") (T := T_M) (N := 13) hx hb hts wi_M hown hK hP 0 rfl rfl 9 (by decide) (hts _ kw_282) (fun _ h9 => h9) rfl d_M_settle_219 ?_
              refine lv_iload_n hx hb d_M_settle_222 rfl (lv_at hl 3 rfl) ?_
              refine xa_iastore (f := t.2.2.1) (x := nI (am t.2.1 (n - 1))) hx hb hK hP hD hS 8 0 rfl rfl (j := t.1) (by omega) (by decide) d_M_settle_223 (fun H locs hP hD hS => ?_)
              have hP : va_P (dC, dI) vwCl (md_w ad cI cJ 0 n t.1 ki ra (cpy n (fun _ => 0) po) (cpy n (fun q => se q + po q) se) bc bs (vp_updL (vp_updL t.2.1 (am t.2.1 (n - 1)) ((t.2.1 (am t.2.1 (n - 1))) + (pay t.2.1 (am t.2.1 (n - 1)) (ax t.2.1 (n - 1))))) (ax t.2.1 (n - 1)) (((vp_updL t.2.1 (am t.2.1 (n - 1)) ((t.2.1 (am t.2.1 (n - 1))) + (pay t.2.1 (am t.2.1 (n - 1)) (ax t.2.1 (n - 1))))) (ax t.2.1 (n - 1))) - (pay t.2.1 (am t.2.1 (n - 1)) (ax t.2.1 (n - 1))))) (upd t.2.2.1 t.1 (nI (am t.2.1 (n - 1)))) t.2.2.2.1 t.2.2.2.2) H := hP
              have hD : va_D A (md_w ad cI cJ 0 n t.1 ki ra (cpy n (fun _ => 0) po) (cpy n (fun q => se q + po q) se) bc bs (vp_updL (vp_updL t.2.1 (am t.2.1 (n - 1)) ((t.2.1 (am t.2.1 (n - 1))) + (pay t.2.1 (am t.2.1 (n - 1)) (ax t.2.1 (n - 1))))) (ax t.2.1 (n - 1)) (((vp_updL t.2.1 (am t.2.1 (n - 1)) ((t.2.1 (am t.2.1 (n - 1))) + (pay t.2.1 (am t.2.1 (n - 1)) (ax t.2.1 (n - 1))))) (ax t.2.1 (n - 1))) - (pay t.2.1 (am t.2.1 (n - 1)) (ax t.2.1 (n - 1))))) (upd t.2.2.1 t.1 (nI (am t.2.1 (n - 1)))) t.2.2.2.1 t.2.2.2.2) := hD
              refine lv_aload_n hx hb d_M_settle_224 rfl (lv_at hl 2 rfl) ?_
              refine va_get (D := (dC, dI)) (ci := 1) (v := .ref (ad 9)) (C := "ClearingBooksModel") (T := T_M) (N := 13) hx hb hts wi_M hown hK hP 0 rfl rfl 11 (by decide) (hts _ kw_284) (fun _ h9 => h9) rfl d_M_settle_225 ?_
              refine lv_aload_n hx hb d_M_settle_228 rfl (lv_at hl 2 rfl) ?_
              refine va_get (D := (dC, dI)) (ci := 1) (v := .int (nI t.1)) (C := "ClearingBooksModel") (T := T_M) (N := 13) hx hb hts wi_M hown hK hP 0 rfl rfl 9 (by decide) (hts _ kw_282) (fun _ h9 => h9) rfl d_M_settle_229 ?_
              refine lv_iload_n hx hb d_M_settle_232 rfl (lv_at hl 4 rfl) ?_
              refine xa_iastore (f := t.2.2.2.1) (x := nI (ax t.2.1 (n - 1))) hx hb hK hP hD hS 9 0 rfl rfl (j := t.1) (by omega) (by decide) d_M_settle_233 (fun H locs hP hD hS => ?_)
              have hP : va_P (dC, dI) vwCl (md_w ad cI cJ 0 n t.1 ki ra (cpy n (fun _ => 0) po) (cpy n (fun q => se q + po q) se) bc bs (vp_updL (vp_updL t.2.1 (am t.2.1 (n - 1)) ((t.2.1 (am t.2.1 (n - 1))) + (pay t.2.1 (am t.2.1 (n - 1)) (ax t.2.1 (n - 1))))) (ax t.2.1 (n - 1)) (((vp_updL t.2.1 (am t.2.1 (n - 1)) ((t.2.1 (am t.2.1 (n - 1))) + (pay t.2.1 (am t.2.1 (n - 1)) (ax t.2.1 (n - 1))))) (ax t.2.1 (n - 1))) - (pay t.2.1 (am t.2.1 (n - 1)) (ax t.2.1 (n - 1))))) (upd t.2.2.1 t.1 (nI (am t.2.1 (n - 1)))) (upd t.2.2.2.1 t.1 (nI (ax t.2.1 (n - 1)))) t.2.2.2.2) H := hP
              have hD : va_D A (md_w ad cI cJ 0 n t.1 ki ra (cpy n (fun _ => 0) po) (cpy n (fun q => se q + po q) se) bc bs (vp_updL (vp_updL t.2.1 (am t.2.1 (n - 1)) ((t.2.1 (am t.2.1 (n - 1))) + (pay t.2.1 (am t.2.1 (n - 1)) (ax t.2.1 (n - 1))))) (ax t.2.1 (n - 1)) (((vp_updL t.2.1 (am t.2.1 (n - 1)) ((t.2.1 (am t.2.1 (n - 1))) + (pay t.2.1 (am t.2.1 (n - 1)) (ax t.2.1 (n - 1))))) (ax t.2.1 (n - 1))) - (pay t.2.1 (am t.2.1 (n - 1)) (ax t.2.1 (n - 1))))) (upd t.2.2.1 t.1 (nI (am t.2.1 (n - 1)))) (upd t.2.2.2.1 t.1 (nI (ax t.2.1 (n - 1)))) t.2.2.2.2) := hD
              refine lv_aload_n hx hb d_M_settle_234 rfl (lv_at hl 2 rfl) ?_
              refine va_get (D := (dC, dI)) (ci := 1) (v := .ref (ad 10)) (C := "ClearingBooksModel") (T := T_M) (N := 13) hx hb hts wi_M hown hK hP 0 rfl rfl 12 (by decide) (hts _ kw_285) (fun _ h9 => h9) rfl d_M_settle_235 ?_
              refine lv_aload_n hx hb d_M_settle_238 rfl (lv_at hl 2 rfl) ?_
              refine va_get (D := (dC, dI)) (ci := 1) (v := .int (nI t.1)) (C := "ClearingBooksModel") (T := T_M) (N := 13) hx hb hts wi_M hown hK hP 0 rfl rfl 9 (by decide) (hts _ kw_282) (fun _ h9 => h9) rfl d_M_settle_239 ?_
              refine lv_lload hx hb d_M_settle_242 (lv_at hl 0 rfl) ?_
              refine xa_lastore (f := t.2.2.2.2) (x := pay t.2.1 (am t.2.1 (n - 1)) (ax t.2.1 (n - 1))) hx hb hK hP hD hS 10 1 rfl rfl (j := t.1) (by omega) (by decide) d_M_settle_244 (fun H locs hP hD hS => ?_)
              have hP : va_P (dC, dI) vwCl (md_w ad cI cJ 0 n t.1 ki ra (cpy n (fun _ => 0) po) (cpy n (fun q => se q + po q) se) bc bs (vp_updL (vp_updL t.2.1 (am t.2.1 (n - 1)) ((t.2.1 (am t.2.1 (n - 1))) + (pay t.2.1 (am t.2.1 (n - 1)) (ax t.2.1 (n - 1))))) (ax t.2.1 (n - 1)) (((vp_updL t.2.1 (am t.2.1 (n - 1)) ((t.2.1 (am t.2.1 (n - 1))) + (pay t.2.1 (am t.2.1 (n - 1)) (ax t.2.1 (n - 1))))) (ax t.2.1 (n - 1))) - (pay t.2.1 (am t.2.1 (n - 1)) (ax t.2.1 (n - 1))))) (upd t.2.2.1 t.1 (nI (am t.2.1 (n - 1)))) (upd t.2.2.2.1 t.1 (nI (ax t.2.1 (n - 1)))) (vp_updL t.2.2.2.2 t.1 (pay t.2.1 (am t.2.1 (n - 1)) (ax t.2.1 (n - 1))))) H := hP
              have hD : va_D A (md_w ad cI cJ 0 n t.1 ki ra (cpy n (fun _ => 0) po) (cpy n (fun q => se q + po q) se) bc bs (vp_updL (vp_updL t.2.1 (am t.2.1 (n - 1)) ((t.2.1 (am t.2.1 (n - 1))) + (pay t.2.1 (am t.2.1 (n - 1)) (ax t.2.1 (n - 1))))) (ax t.2.1 (n - 1)) (((vp_updL t.2.1 (am t.2.1 (n - 1)) ((t.2.1 (am t.2.1 (n - 1))) + (pay t.2.1 (am t.2.1 (n - 1)) (ax t.2.1 (n - 1))))) (ax t.2.1 (n - 1))) - (pay t.2.1 (am t.2.1 (n - 1)) (ax t.2.1 (n - 1))))) (upd t.2.2.1 t.1 (nI (am t.2.1 (n - 1)))) (upd t.2.2.2.1 t.1 (nI (ax t.2.1 (n - 1)))) (vp_updL t.2.2.2.2 t.1 (pay t.2.1 (am t.2.1 (n - 1)) (ax t.2.1 (n - 1))))) := hD
              refine lv_aload_n hx hb d_M_settle_245 rfl (lv_at hl 2 rfl) ?_
              refine lv_dup hx hb d_M_settle_246 rfl ?_
              refine va_get (D := (dC, dI)) (ci := 1) (v := .int (nI t.1)) (C := "ClearingBooksModel") (T := T_M) (N := 13) hx hb hts wi_M hown hK hP 0 rfl rfl 9 (by decide) (hts _ kw_282) (fun _ h9 => h9) rfl d_M_settle_247 ?_
              refine lv_iconst (v := nI 1) hx hb d_M_settle_250 (by decide) ?_
              refine t_iadd hx hb d_M_settle_251 (v := nI (t.1 + 1)) (nI_add t.1 1) ?_
              refine va_put (D := (dC, dI)) (ci := 1) (v := .int (nI (t.1 + 1))) (ty := .int) (C := "ClearingBooksModel") (T := T_M) (N := 13) hx hb hts wi_M ty_M tyok_M nm_M hown hK hP hD hS 0 rfl rfl 9 (by decide) (hts _ kw_282) (fun _ h9 => h9) rfl (by decide +kernel) rfl rfl (Nat.le_of_ble_eq_true rfl) d_M_settle_252 (fun H locs hP hD hS => ?_)
              have hP : va_P (dC, dI) vwCl (md_w ad cI cJ 0 n (t.1 + 1) ki ra (cpy n (fun _ => 0) po) (cpy n (fun q => se q + po q) se) bc bs (vp_updL (vp_updL t.2.1 (am t.2.1 (n - 1)) ((t.2.1 (am t.2.1 (n - 1))) + (pay t.2.1 (am t.2.1 (n - 1)) (ax t.2.1 (n - 1))))) (ax t.2.1 (n - 1)) (((vp_updL t.2.1 (am t.2.1 (n - 1)) ((t.2.1 (am t.2.1 (n - 1))) + (pay t.2.1 (am t.2.1 (n - 1)) (ax t.2.1 (n - 1))))) (ax t.2.1 (n - 1))) - (pay t.2.1 (am t.2.1 (n - 1)) (ax t.2.1 (n - 1))))) (upd t.2.2.1 t.1 (nI (am t.2.1 (n - 1)))) (upd t.2.2.2.1 t.1 (nI (ax t.2.1 (n - 1)))) (vp_updL t.2.2.2.2 t.1 (pay t.2.1 (am t.2.1 (n - 1)) (ax t.2.1 (n - 1))))) H := hP
              have hD : va_D A (md_w ad cI cJ 0 n (t.1 + 1) ki ra (cpy n (fun _ => 0) po) (cpy n (fun q => se q + po q) se) bc bs (vp_updL (vp_updL t.2.1 (am t.2.1 (n - 1)) ((t.2.1 (am t.2.1 (n - 1))) + (pay t.2.1 (am t.2.1 (n - 1)) (ax t.2.1 (n - 1))))) (ax t.2.1 (n - 1)) (((vp_updL t.2.1 (am t.2.1 (n - 1)) ((t.2.1 (am t.2.1 (n - 1))) + (pay t.2.1 (am t.2.1 (n - 1)) (ax t.2.1 (n - 1))))) (ax t.2.1 (n - 1))) - (pay t.2.1 (am t.2.1 (n - 1)) (ax t.2.1 (n - 1))))) (upd t.2.2.1 t.1 (nI (am t.2.1 (n - 1)))) (upd t.2.2.2.1 t.1 (nI (ax t.2.1 (n - 1)))) (vp_updL t.2.2.2.2 t.1 (pay t.2.1 (am t.2.1 (n - 1)) (ax t.2.1 (n - 1))))) := hD
              refine lv_goto (tgt := 62) hx hb d_M_settle_255 (by decide) ?_
              exact ih (tr1 n t) H locs ls _ (by show t.1 + 1 + k = 14; omega) hF b1 b2 (by show cz (aft _ _ _) n ≤ k + 1; omega) hP hD hS (lv_sub (l' := [(0, .ref (ad 0)), (1, .int (nI 1))]) hl [2, 1] rfl)
      have inner : ∀ (k2 i : Nat) (ls : Array Slot), i + 1 + k2 = n → lv_has ls 6 [(0, .ref (ad 0)), (1, .int (nI 1)), (2, .int (nI (am t.2.1 i))), (3, .int (nI (ax t.2.1 i))), (4, .int (nI (i + 1)))] → W p l e (headSpec (.code y_M_settle b_M_settle 6 (some .int) :: wAll) ({ frames := 0, cells := 0, slots := 0, locals := 0 } : Room)).room s m ([.ref (ad 0)] : List Value).toArray below meth c H locs 0 0 (MQ below (va_Qi (fun (z : Int32) (_ : Unit) => z = nI (trs n 14 (0, cpy n po op, pr, pe, pm)).1) (mu_B (dC, dI) vwCl [(cI, .int), (cJ, .long)] A (md_w ad cI cJ 0 n ((trs n 14 (0, cpy n po op, pr, pe, pm)).1) ki ra (cpy n (fun _ => 0) po) (cpy n (fun q => se q + po q) se) bc bs ((trs n 14 (0, cpy n po op, pr, pe, pm)).2.1) ((trs n 14 (0, cpy n po op, pr, pe, pm)).2.2.1) ((trs n 14 (0, cpy n po op, pr, pe, pm)).2.2.2.1) ((trs n 14 (0, cpy n po op, pr, pe, pm)).2.2.2.2))) A) ([.ref (ad 0)] : List Value).toArray s 0 0 A) (F0 m 73 ls []) := by
        intro k2
        induction k2 with
        | zero =>
          intro i ls hi hl
          have h5 := am_le t.2.1 i
          have h6 := ax_le t.2.1 i
          refine lv_iload hx hb d_M_settle_73 (lv_at hl 4 rfl) ?_
          refine lv_aload_n hx hb d_M_settle_75 rfl (lv_at hl 0 rfl) ?_
          refine va_get (D := (dC, dI)) (ci := 1) (v := .int (nI n)) (C := "ClearingBooksModel") (T := T_M) (N := 13) hx hb hts wi_M hown hK hP 0 rfl rfl 1 (by decide) (hts _ kw_274) (fun _ h9 => h9) rfl d_M_settle_76 ?_
          refine lv_icmp_ge (tgt := 136) hx hb d_M_settle_79 (by decide) (fun c91 => ?_) (fun c91 => ?_)
          · replace c91 := (nI_leI (by omega) (by omega)).mp c91
            obtain rfl : n = i + 1 := by omega
            exact tail ls (lv_sub hl [0, 1, 2, 3, 4] rfl)
          · replace c91 := mt (nI_leI (by omega) (by omega)).mpr c91
            exfalso; omega
        | succ k2 ih2 =>
          intro i ls hi hl
          have h5 := am_le t.2.1 i
          have h6 := ax_le t.2.1 i
          refine lv_iload hx hb d_M_settle_73 (lv_at hl 4 rfl) ?_
          refine lv_aload_n hx hb d_M_settle_75 rfl (lv_at hl 0 rfl) ?_
          refine va_get (D := (dC, dI)) (ci := 1) (v := .int (nI n)) (C := "ClearingBooksModel") (T := T_M) (N := 13) hx hb hts wi_M hown hK hP 0 rfl rfl 1 (by decide) (hts _ kw_274) (fun _ h9 => h9) rfl d_M_settle_76 ?_
          refine lv_icmp_ge (tgt := 136) hx hb d_M_settle_79 (by decide) (fun c91 => ?_) (fun c91 => ?_)
          · replace c91 := (nI_leI (by omega) (by omega)).mp c91
            exfalso; omega
          · replace c91 := mt (nI_leI (by omega) (by omega)).mpr c91
            refine lv_aload_n hx hb d_M_settle_82 rfl (lv_at hl 0 rfl) ?_
            refine va_get (D := (dC, dI)) (ci := 1) (v := .ref (ad 7)) (C := "ClearingBooksModel") (T := T_M) (N := 13) hx hb hts wi_M hown hK hP 0 rfl rfl 8 (by decide) (hts _ kw_281) (fun _ h9 => h9) rfl d_M_settle_83 ?_
            refine lv_iload hx hb d_M_settle_86 (lv_at hl 4 rfl) ?_
            refine xa_laload (f := t.2.1) hx hb hK hP 7 1 rfl rfl (j := i + 1) (by omega) (by decide) d_M_settle_88 ?_
            refine lv_aload_n hx hb d_M_settle_89 rfl (lv_at hl 0 rfl) ?_
            refine va_get (D := (dC, dI)) (ci := 1) (v := .ref (ad 7)) (C := "ClearingBooksModel") (T := T_M) (N := 13) hx hb hts wi_M hown hK hP 0 rfl rfl 8 (by decide) (hts _ kw_281) (fun _ h9 => h9) rfl d_M_settle_90 ?_
            refine lv_iload_n hx hb d_M_settle_93 rfl (lv_at hl 2 rfl) ?_
            refine xa_laload (f := t.2.1) hx hb hK hP 7 1 rfl rfl (j := am t.2.1 i) (by omega) (by decide) d_M_settle_94 ?_
            refine W.lcmp hx hb d_M_settle_95 ?_
            refine lv_if_ge (tgt := 104) hx hb d_M_settle_96 (by decide) (fun c92 => ?_) (fun c92 => ?_)
            · replace c92 := (lg_cmp_ge _ _).mp c92
              refine lv_iload_n hx hb d_M_settle_104 rfl (lv_at hl 2 rfl) ?_
              refine lv_istore_n (lv' := [(2, .int (nI (am t.2.1 i))), (0, .ref (ad 0)), (1, .int (nI 1)), (3, .int (nI (ax t.2.1 i))), (4, .int (nI (i + 1)))]) hx hb d_M_settle_105 rfl hl (by decide) rfl (fun ls hl => ?_)
              refine lv_aload_n hx hb d_M_settle_106 rfl (lv_at hl 1 rfl) ?_
              refine va_get (D := (dC, dI)) (ci := 1) (v := .ref (ad 7)) (C := "ClearingBooksModel") (T := T_M) (N := 13) hx hb hts wi_M hown hK hP 0 rfl rfl 8 (by decide) (hts _ kw_281) (fun _ h9 => h9) rfl d_M_settle_107 ?_
              refine lv_iload hx hb d_M_settle_110 (lv_at hl 4 rfl) ?_
              refine xa_laload (f := t.2.1) hx hb hK hP 7 1 rfl rfl (j := i + 1) (by omega) (by decide) d_M_settle_112 ?_
              refine lv_aload_n hx hb d_M_settle_113 rfl (lv_at hl 1 rfl) ?_
              refine va_get (D := (dC, dI)) (ci := 1) (v := .ref (ad 7)) (C := "ClearingBooksModel") (T := T_M) (N := 13) hx hb hts wi_M hown hK hP 0 rfl rfl 8 (by decide) (hts _ kw_281) (fun _ h9 => h9) rfl d_M_settle_114 ?_
              refine lv_iload_n hx hb d_M_settle_117 rfl (lv_at hl 3 rfl) ?_
              refine xa_laload (f := t.2.1) hx hb hK hP 7 1 rfl rfl (j := ax t.2.1 i) (by omega) (by decide) d_M_settle_118 ?_
              refine W.lcmp hx hb d_M_settle_119 ?_
              refine lv_if_le (tgt := 128) hx hb d_M_settle_120 (by decide) (fun c93 => ?_) (fun c93 => ?_)
              · replace c93 := (lg_cmp_le _ _).mp c93
                refine lv_iload_n hx hb d_M_settle_128 rfl (lv_at hl 3 rfl) ?_
                refine lv_istore_n (lv' := [(3, .int (nI (ax t.2.1 i))), (2, .int (nI (am t.2.1 i))), (0, .ref (ad 0)), (1, .int (nI 1)), (4, .int (nI (i + 1)))]) hx hb d_M_settle_129 rfl hl (by decide) rfl (fun ls hl => ?_)
                refine lv_iinc (v := nI (i + 1 + 1)) (lv' := [(4, .int (nI (i + 1 + 1))), (3, .int (nI (ax t.2.1 i))), (2, .int (nI (am t.2.1 i))), (0, .ref (ad 0)), (1, .int (nI 1))]) hx hb d_M_settle_130 hl (k := 4) rfl (nI_1 (i + 1)) (by decide) rfl (fun ls hl => ?_)
                refine lv_goto (tgt := 73) hx hb d_M_settle_133 (by decide) ?_
                have ea : am t.2.1 (i + 1) = am t.2.1 i := am_y (by assumption)
                have eb : ax t.2.1 (i + 1) = ax t.2.1 i := ax_y (by assumption)
                exact ih2 (i + 1) ls (by omega) (by rw [ea, eb]; exact lv_sub hl [3, 4, 2, 1, 0] rfl)
              · replace c93 := mt (lg_cmp_le _ _).mpr c93
                refine lv_iload hx hb d_M_settle_123 (lv_at hl 4 rfl) ?_
                refine lv_goto (tgt := 129) hx hb d_M_settle_125 (by decide) ?_
                refine lv_istore_n (lv' := [(3, .int (nI (i + 1))), (2, .int (nI (am t.2.1 i))), (0, .ref (ad 0)), (1, .int (nI 1)), (4, .int (nI (i + 1)))]) hx hb d_M_settle_129 rfl hl (by decide) rfl (fun ls hl => ?_)
                refine lv_iinc (v := nI (i + 1 + 1)) (lv' := [(4, .int (nI (i + 1 + 1))), (3, .int (nI (i + 1))), (2, .int (nI (am t.2.1 i))), (0, .ref (ad 0)), (1, .int (nI 1))]) hx hb d_M_settle_130 hl (k := 4) rfl (nI_1 (i + 1)) (by decide) rfl (fun ls hl => ?_)
                refine lv_goto (tgt := 73) hx hb d_M_settle_133 (by decide) ?_
                have ea : am t.2.1 (i + 1) = am t.2.1 i := am_y (by assumption)
                have eb : ax t.2.1 (i + 1) = i + 1 := ax_n (by assumption)
                exact ih2 (i + 1) ls (by omega) (by rw [ea, eb]; exact lv_sub hl [3, 4, 2, 1, 0] rfl)
            · replace c92 := mt (lg_cmp_ge _ _).mpr c92
              refine lv_iload hx hb d_M_settle_99 (lv_at hl 4 rfl) ?_
              refine lv_goto (tgt := 105) hx hb d_M_settle_101 (by decide) ?_
              refine lv_istore_n (lv' := [(2, .int (nI (i + 1))), (0, .ref (ad 0)), (1, .int (nI 1)), (3, .int (nI (ax t.2.1 i))), (4, .int (nI (i + 1)))]) hx hb d_M_settle_105 rfl hl (by decide) rfl (fun ls hl => ?_)
              refine lv_aload_n hx hb d_M_settle_106 rfl (lv_at hl 1 rfl) ?_
              refine va_get (D := (dC, dI)) (ci := 1) (v := .ref (ad 7)) (C := "ClearingBooksModel") (T := T_M) (N := 13) hx hb hts wi_M hown hK hP 0 rfl rfl 8 (by decide) (hts _ kw_281) (fun _ h9 => h9) rfl d_M_settle_107 ?_
              refine lv_iload hx hb d_M_settle_110 (lv_at hl 4 rfl) ?_
              refine xa_laload (f := t.2.1) hx hb hK hP 7 1 rfl rfl (j := i + 1) (by omega) (by decide) d_M_settle_112 ?_
              refine lv_aload_n hx hb d_M_settle_113 rfl (lv_at hl 1 rfl) ?_
              refine va_get (D := (dC, dI)) (ci := 1) (v := .ref (ad 7)) (C := "ClearingBooksModel") (T := T_M) (N := 13) hx hb hts wi_M hown hK hP 0 rfl rfl 8 (by decide) (hts _ kw_281) (fun _ h9 => h9) rfl d_M_settle_114 ?_
              refine lv_iload_n hx hb d_M_settle_117 rfl (lv_at hl 3 rfl) ?_
              refine xa_laload (f := t.2.1) hx hb hK hP 7 1 rfl rfl (j := ax t.2.1 i) (by omega) (by decide) d_M_settle_118 ?_
              refine W.lcmp hx hb d_M_settle_119 ?_
              refine lv_if_le (tgt := 128) hx hb d_M_settle_120 (by decide) (fun c94 => ?_) (fun c94 => ?_)
              · replace c94 := (lg_cmp_le _ _).mp c94
                refine lv_iload_n hx hb d_M_settle_128 rfl (lv_at hl 3 rfl) ?_
                refine lv_istore_n (lv' := [(3, .int (nI (ax t.2.1 i))), (2, .int (nI (i + 1))), (0, .ref (ad 0)), (1, .int (nI 1)), (4, .int (nI (i + 1)))]) hx hb d_M_settle_129 rfl hl (by decide) rfl (fun ls hl => ?_)
                refine lv_iinc (v := nI (i + 1 + 1)) (lv' := [(4, .int (nI (i + 1 + 1))), (3, .int (nI (ax t.2.1 i))), (2, .int (nI (i + 1))), (0, .ref (ad 0)), (1, .int (nI 1))]) hx hb d_M_settle_130 hl (k := 4) rfl (nI_1 (i + 1)) (by decide) rfl (fun ls hl => ?_)
                refine lv_goto (tgt := 73) hx hb d_M_settle_133 (by decide) ?_
                have ea : am t.2.1 (i + 1) = i + 1 := am_n (by assumption)
                have eb : ax t.2.1 (i + 1) = ax t.2.1 i := ax_y (by assumption)
                exact ih2 (i + 1) ls (by omega) (by rw [ea, eb]; exact lv_sub hl [3, 4, 2, 1, 0] rfl)
              · replace c94 := mt (lg_cmp_le _ _).mpr c94
                refine lv_iload hx hb d_M_settle_123 (lv_at hl 4 rfl) ?_
                refine lv_goto (tgt := 129) hx hb d_M_settle_125 (by decide) ?_
                refine lv_istore_n (lv' := [(3, .int (nI (i + 1))), (2, .int (nI (i + 1))), (0, .ref (ad 0)), (1, .int (nI 1)), (4, .int (nI (i + 1)))]) hx hb d_M_settle_129 rfl hl (by decide) rfl (fun ls hl => ?_)
                refine lv_iinc (v := nI (i + 1 + 1)) (lv' := [(4, .int (nI (i + 1 + 1))), (3, .int (nI (i + 1))), (2, .int (nI (i + 1))), (0, .ref (ad 0)), (1, .int (nI 1))]) hx hb d_M_settle_130 hl (k := 4) rfl (nI_1 (i + 1)) (by decide) rfl (fun ls hl => ?_)
                refine lv_goto (tgt := 73) hx hb d_M_settle_133 (by decide) ?_
                have ea : am t.2.1 (i + 1) = i + 1 := am_n (by assumption)
                have eb : ax t.2.1 (i + 1) = i + 1 := ax_n (by assumption)
                exact ih2 (i + 1) ls (by omega) (by rw [ea, eb]; exact lv_sub hl [3, 4, 2, 1, 0] rfl)
      refine lv_iload_n hx hb d_M_settle_62 rfl (lv_at hl 1 rfl) ?_
      refine lv_if_eq (tgt := 258) hx hb d_M_settle_63 (by decide) (fun c111 => ?_) (fun c111 => ?_)
      · exact absurd c111 (by decide)
      · refine lv_iconst (v := nI 0) hx hb d_M_settle_66 (by decide) ?_
        refine lv_istore_n (lv' := [(2, .int (nI 0)), (0, .ref (ad 0)), (1, .int (nI 1))]) hx hb d_M_settle_67 rfl hl (by decide) rfl (fun ls hl => ?_)
        refine lv_iconst (v := nI 0) hx hb d_M_settle_68 (by decide) ?_
        refine lv_istore_n (lv' := [(3, .int (nI 0)), (2, .int (nI 0)), (0, .ref (ad 0)), (1, .int (nI 1))]) hx hb d_M_settle_69 rfl hl (by decide) rfl (fun ls hl => ?_)
        refine lv_iconst (v := nI 1) hx hb d_M_settle_70 (by decide) ?_
        refine lv_istore (lv' := [(4, .int (nI 1)), (3, .int (nI 0)), (2, .int (nI 0)), (0, .ref (ad 0)), (1, .int (nI 1))]) hx hb d_M_settle_71 hl (by decide) rfl (fun ls hl => ?_)
        exact inner (n - 1) 0 ls (by omega) (lv_sub hl [3, 4, 2, 1, 0] rfl)
  have loop : ∀ (k i : Nat) (H : Heap) (locs : List Loc) (ls : Array Slot), i + k = n → va_P (dC, dI) vwCl (md_w ad cI cJ 0 n tc ki ra (cpy i (fun _ => 0) po) (cpy i (fun q => se q + po q) se) bc bs (cpy i po op) pr pe pm) H → va_D A (md_w ad cI cJ 0 n tc ki ra (cpy i (fun _ => 0) po) (cpy i (fun q => se q + po q) se) bc bs (cpy i po op) pr pe pm) → va_S A s.heap H locs → lv_has ls 6 [(0, .ref (ad 0)), (1, .int (nI i))] → W p l e (headSpec (.code y_M_settle b_M_settle 6 (some .int) :: wAll) ({ frames := 0, cells := 0, slots := 0, locals := 0 } : Room)).room s m ([.ref (ad 0)] : List Value).toArray below meth c H locs 0 0 (MQ below (va_Qi (fun (z : Int32) (_ : Unit) => z = nI (trs n 14 (0, cpy n po op, pr, pe, pm)).1) (mu_B (dC, dI) vwCl [(cI, .int), (cJ, .long)] A (md_w ad cI cJ 0 n ((trs n 14 (0, cpy n po op, pr, pe, pm)).1) ki ra (cpy n (fun _ => 0) po) (cpy n (fun q => se q + po q) se) bc bs ((trs n 14 (0, cpy n po op, pr, pe, pm)).2.1) ((trs n 14 (0, cpy n po op, pr, pe, pm)).2.2.1) ((trs n 14 (0, cpy n po op, pr, pe, pm)).2.2.2.1) ((trs n 14 (0, cpy n po op, pr, pe, pm)).2.2.2.2))) A) ([.ref (ad 0)] : List Value).toArray s 0 0 A) (F0 m 7 ls []) := by
    intro k
    induction k with
    | zero =>
      intro i H locs ls hi hP hD hS hl
      obtain rfl : i = n := by omega
      refine lv_iload_n hx hb d_M_settle_7 rfl (lv_at hl 1 rfl) ?_
      refine lv_aload_n hx hb d_M_settle_8 rfl (lv_at hl 0 rfl) ?_
      refine va_get (D := (dC, dI)) (ci := 1) (v := .int (nI i)) (C := "ClearingBooksModel") (T := T_M) (N := 13) hx hb hts wi_M hown hK hP 0 rfl rfl 1 (by decide) (hts _ kw_274) (fun _ h9 => h9) rfl d_M_settle_9 ?_
      refine lv_icmp_ge (tgt := 55) hx hb d_M_settle_12 (by decide) (fun c51 => ?_) (fun c51 => ?_)
      · replace c51 := (nI_leI (by omega) (by omega)).mp c51
        refine lv_aload_n hx hb d_M_settle_55 rfl (lv_at hl 0 rfl) ?_
        refine lv_iconst (v := nI 0) hx hb d_M_settle_56 (by decide) ?_
        refine va_put (D := (dC, dI)) (ci := 1) (v := .int (nI 0)) (ty := .int) (C := "ClearingBooksModel") (T := T_M) (N := 13) hx hb hts wi_M ty_M tyok_M nm_M hown hK hP hD hS 0 rfl rfl 9 (by decide) (hts _ kw_282) (fun _ h9 => h9) rfl (by decide +kernel) rfl rfl (Nat.le_of_ble_eq_true rfl) d_M_settle_57 (fun H locs hP hD hS => ?_)
        have hP : va_P (dC, dI) vwCl (md_w ad cI cJ 0 i 0 ki ra (cpy i (fun _ => 0) po) (cpy i (fun q => se q + po q) se) bc bs (cpy i po op) pr pe pm) H := hP
        have hD : va_D A (md_w ad cI cJ 0 i 0 ki ra (cpy i (fun _ => 0) po) (cpy i (fun q => se q + po q) se) bc bs (cpy i po op) pr pe pm) := hD
        refine lv_iconst (v := nI 1) hx hb d_M_settle_60 (by decide) ?_
        refine lv_istore_n (lv' := [(1, .int (nI 1)), (0, .ref (ad 0))]) hx hb d_M_settle_61 rfl hl (by decide) rfl (fun ls hl => ?_)
        exact loop2 14 (0, cpy i po op, pr, pe, pm) H locs ls [] rfl rfl (by rw [show (0, cpy i po op, pr, pe, pm).2.1 = cpy i po op from rfl, si_cpy]; exact hsi0) (by intro q hq; rw [show (0, cpy i po op, pr, pe, pm).2.1 = cpy i po op from rfl, cpy_in hq]; exact hsm0 q hq) (by have := cz_le (cpy i po op) i; show cz (cpy i po op) i ≤ 15; omega) hP hD hS (lv_sub hl [1, 0] rfl)
      · replace c51 := mt (nI_leI (by omega) (by omega)).mpr c51
        exfalso; omega
    | succ k ih =>
      intro i H locs ls hi hP hD hS hl
      refine lv_iload_n hx hb d_M_settle_7 rfl (lv_at hl 1 rfl) ?_
      refine lv_aload_n hx hb d_M_settle_8 rfl (lv_at hl 0 rfl) ?_
      refine va_get (D := (dC, dI)) (ci := 1) (v := .int (nI n)) (C := "ClearingBooksModel") (T := T_M) (N := 13) hx hb hts wi_M hown hK hP 0 rfl rfl 1 (by decide) (hts _ kw_274) (fun _ h9 => h9) rfl d_M_settle_9 ?_
      refine lv_icmp_ge (tgt := 55) hx hb d_M_settle_12 (by decide) (fun c51 => ?_) (fun c51 => ?_)
      · replace c51 := (nI_leI (by omega) (by omega)).mp c51
        exfalso; omega
      · replace c51 := mt (nI_leI (by omega) (by omega)).mpr c51
        refine lv_aload_n hx hb d_M_settle_15 rfl (lv_at hl 0 rfl) ?_
        refine va_get (D := (dC, dI)) (ci := 1) (v := .ref (ad 7)) (C := "ClearingBooksModel") (T := T_M) (N := 13) hx hb hts wi_M hown hK hP 0 rfl rfl 8 (by decide) (hts _ kw_281) (fun _ h9 => h9) rfl d_M_settle_16 ?_
        refine lv_iload_n hx hb d_M_settle_19 rfl (lv_at hl 1 rfl) ?_
        refine lv_aload_n hx hb d_M_settle_20 rfl (lv_at hl 0 rfl) ?_
        refine va_get (D := (dC, dI)) (ci := 1) (v := .ref (ad 3)) (C := "ClearingBooksModel") (T := T_M) (N := 13) hx hb hts wi_M hown hK hP 0 rfl rfl 4 (by decide) (hts _ kw_277) (fun _ h9 => h9) rfl d_M_settle_21 ?_
        refine lv_iload_n hx hb d_M_settle_24 rfl (lv_at hl 1 rfl) ?_
        refine xa_laload (f := cpy i (fun _ => 0) po) hx hb hK hP 3 1 rfl rfl (j := i) (by omega) (by decide) d_M_settle_25 ?_
        refine xa_lastore (f := cpy i po op) (x := (cpy i (fun _ => 0) po) i) hx hb hK hP hD hS 7 1 rfl rfl (j := i) (by omega) (by decide) d_M_settle_26 (fun H locs hP hD hS => ?_)
        have hP : va_P (dC, dI) vwCl (md_w ad cI cJ 0 n tc ki ra (cpy i (fun _ => 0) po) (cpy i (fun q => se q + po q) se) bc bs (vp_updL (cpy i po op) i ((cpy i (fun _ => 0) po) i)) pr pe pm) H := hP
        have hD : va_D A (md_w ad cI cJ 0 n tc ki ra (cpy i (fun _ => 0) po) (cpy i (fun q => se q + po q) se) bc bs (vp_updL (cpy i po op) i ((cpy i (fun _ => 0) po) i)) pr pe pm) := hD
        refine lv_aload_n hx hb d_M_settle_27 rfl (lv_at hl 0 rfl) ?_
        refine va_get (D := (dC, dI)) (ci := 1) (v := .ref (ad 4)) (C := "ClearingBooksModel") (T := T_M) (N := 13) hx hb hts wi_M hown hK hP 0 rfl rfl 5 (by decide) (hts _ kw_278) (fun _ h9 => h9) rfl d_M_settle_28 ?_
        refine lv_iload_n hx hb d_M_settle_31 rfl (lv_at hl 1 rfl) ?_
        refine lv_dup2_11 hx hb d_M_settle_32 rfl rfl ?_
        refine xa_laload (f := cpy i (fun q => se q + po q) se) hx hb hK hP 4 1 rfl rfl (j := i) (by omega) (by decide) d_M_settle_33 ?_
        refine lv_aload_n hx hb d_M_settle_34 rfl (lv_at hl 0 rfl) ?_
        refine va_get (D := (dC, dI)) (ci := 1) (v := .ref (ad 3)) (C := "ClearingBooksModel") (T := T_M) (N := 13) hx hb hts wi_M hown hK hP 0 rfl rfl 4 (by decide) (hts _ kw_277) (fun _ h9 => h9) rfl d_M_settle_35 ?_
        refine lv_iload_n hx hb d_M_settle_38 rfl (lv_at hl 1 rfl) ?_
        refine xa_laload (f := cpy i (fun _ => 0) po) hx hb hK hP 3 1 rfl rfl (j := i) (by omega) (by decide) d_M_settle_39 ?_
        refine lv_ladd hx hb d_M_settle_40 ?_
        refine xa_lastore (f := cpy i (fun q => se q + po q) se) (x := ((cpy i (fun q => se q + po q) se) i) + ((cpy i (fun _ => 0) po) i)) hx hb hK hP hD hS 4 1 rfl rfl (j := i) (by omega) (by decide) d_M_settle_41 (fun H locs hP hD hS => ?_)
        have hP : va_P (dC, dI) vwCl (md_w ad cI cJ 0 n tc ki ra (cpy i (fun _ => 0) po) (vp_updL (cpy i (fun q => se q + po q) se) i (((cpy i (fun q => se q + po q) se) i) + ((cpy i (fun _ => 0) po) i))) bc bs (vp_updL (cpy i po op) i ((cpy i (fun _ => 0) po) i)) pr pe pm) H := hP
        have hD : va_D A (md_w ad cI cJ 0 n tc ki ra (cpy i (fun _ => 0) po) (vp_updL (cpy i (fun q => se q + po q) se) i (((cpy i (fun q => se q + po q) se) i) + ((cpy i (fun _ => 0) po) i))) bc bs (vp_updL (cpy i po op) i ((cpy i (fun _ => 0) po) i)) pr pe pm) := hD
        refine lv_aload_n hx hb d_M_settle_42 rfl (lv_at hl 0 rfl) ?_
        refine va_get (D := (dC, dI)) (ci := 1) (v := .ref (ad 3)) (C := "ClearingBooksModel") (T := T_M) (N := 13) hx hb hts wi_M hown hK hP 0 rfl rfl 4 (by decide) (hts _ kw_277) (fun _ h9 => h9) rfl d_M_settle_43 ?_
        refine lv_iload_n hx hb d_M_settle_46 rfl (lv_at hl 1 rfl) ?_
        refine lv_lconst (v := 0) hx hb d_M_settle_47 (by decide) ?_
        refine xa_lastore (f := cpy i (fun _ => 0) po) (x := 0) hx hb hK hP hD hS 3 1 rfl rfl (j := i) (by omega) (by decide) d_M_settle_48 (fun H locs hP hD hS => ?_)
        have hP : va_P (dC, dI) vwCl (md_w ad cI cJ 0 n tc ki ra (vp_updL (cpy i (fun _ => 0) po) i 0) (vp_updL (cpy i (fun q => se q + po q) se) i (((cpy i (fun q => se q + po q) se) i) + ((cpy i (fun _ => 0) po) i))) bc bs (vp_updL (cpy i po op) i ((cpy i (fun _ => 0) po) i)) pr pe pm) H := hP
        have hD : va_D A (md_w ad cI cJ 0 n tc ki ra (vp_updL (cpy i (fun _ => 0) po) i 0) (vp_updL (cpy i (fun q => se q + po q) se) i (((cpy i (fun q => se q + po q) se) i) + ((cpy i (fun _ => 0) po) i))) bc bs (vp_updL (cpy i po op) i ((cpy i (fun _ => 0) po) i)) pr pe pm) := hD
        refine lv_iinc (v := nI (i + 1)) (lv' := [(1, .int (nI (i + 1))), (0, .ref (ad 0))]) hx hb d_M_settle_49 hl (k := 1) rfl (nI_1 i) (by decide) rfl (fun ls hl => ?_)
        refine lv_goto (tgt := 7) hx hb d_M_settle_52 (by decide) ?_
        have e_op : vp_updL (cpy i po op) i ((cpy i (fun _ => 0) po) i) = cpy (i + 1) po op := cpy_up (cpy_at i (fun _ => 0) po)
        have e_se : vp_updL (cpy i (fun q => se q + po q) se) i (((cpy i (fun q => se q + po q) se) i) + ((cpy i (fun _ => 0) po) i)) = cpy (i + 1) (fun q => se q + po q) se := cpy_up (by rw [cpy_at, cpy_at])
        have e_po : vp_updL (cpy i (fun _ => 0) po) i 0 = cpy (i + 1) (fun _ => 0) po := cpy_up (rfl)
        rw [e_op, e_se, e_po] at hP hD
        exact ih (i + 1) H locs ls (by omega) hP hD hS (lv_sub hl [1, 0] rfl)
  have z_op := cpy_0 po op
  have z_se := cpy_0 (fun q => se q + po q) se
  have z_po := cpy_0 (fun _ => (0 : Int64)) po
  exact loop n 0 H locs ls (by omega) (by rw [z_op, z_se, z_po]; exact hP) (by rw [z_op, z_se, z_po]; exact hD) hS (lv_sub hl [1, 0] rfl)
