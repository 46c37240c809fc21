/-! THE REFERENCE: the methods that write, 2 -/
theorem i_c_X5_crane_ok_X5 : ∀ w ∈ wsX50, w ∈ wsX5_crane := fun w h => (List.mem_cons_of_mem _ (List.mem_append_right _ h))
set_option maxRecDepth 100000 in
set_option maxHeartbeats 4000000 in
theorem c_X5_crane_ok (l : Launch) (D : va_G) (y : zY) (m : Nat) (d : Nat → Int32) (was : Nat → Int32) (as : Nat → Int32) (tx : Nat → Int32) (gt : Nat → Int32) (k : Nat) (ty : Int32) (pa : Int32) (rs : Int32) (x : Int32) (z : Int32) (r : Int32) (h : Int32) (sg : Int32) (no : Int32) (hI : zI d) (hk4 : k ≤ 4) (hok : okCr x z r h sg no = true) (hh : hasC d x z = false) (h8 : nC d < 8) : Met l yX5_crane wsX5_crane ({ frames := 2, cells := 0, slots := 0, locals := 42 }) (zP [.ref m, .int x, .int z, .int r, .int h, .int sg, .int no] (va_P D vwCl (mWs y m d was as tx gt (nI k) ty pa rs)) D y) (zW (some (.int (nI (nC d)))) (va_P D vwCl (mWs y m (addC d x z r h sg no) (recW d was k) as tx gt (nI (recN k)) ty pa rs)) (blk m 6)) 0 0 (blk m 6) := by
  refine z_body (cc := cX5_crane) (maxL := 8) (ret := (some .int)) (la := [(0, .ref m), (1, .int x), (2, .int z), (3, .int r), (4, .int h), (5, .int sg), (6, .int no)]) (by decide) rfl (Nat.le_of_ble_eq_true rfl) rfl ?_
  intro pg ev s mm below meth c0 ls hx hb hr hF hlocks hΦ hK hl _
  have hts := hF.2.2.2.2
  have hown : s.vm.findClass RX5 = some mm.cls := hF.2.2.2.1
  have hP : va_P D vwCl (mWs y m d was as tx gt (nI k) ty pa rs) s.heap := hΦ
  have hS : va_S (blk m 6) s.heap s.heap [] := va_S.rf
  have hG2 := hI.ng2
  have hC8 := hI.nc8
  have hrk := recN_le hk4
  refine lv_iload_n hx hb dX5_crane_0 rfl (lv_at hl 1 rfl) ?_
  refine lv_iconst (v := (nI 0)) hx hb dX5_crane_1 (by decide) ?_
  refine lv_bipush (v := (nI 15)) hx hb dX5_crane_2 (by decide) ?_
  refine z_callS (As := [.int x, .int (nI 0), .int (nI 15)]) (rest := []) hF hK (c_X5_in l D y x (nI 0) (nI 15) ) (va_cwS 3 hts gX5_crane_X5_in rfl rfl rfl (by decide +kernel) ⟨Nat.le_of_ble_eq_true rfl, Nat.le_of_ble_eq_true rfl⟩) trivial rfl hl.1 rfl (Nat.le_of_ble_eq_true rfl) dX5_crane_4 ⟨Nat.zero_le _, Nat.zero_le _⟩ ?_
  refine z_ifeq (tgt := 61) hx hb dX5_crane_7 (by decide) (fun c7 => ?_) (fun c7 => ?_)
  · exfalso
    unfold okCr at hok
    simp only [Bool.and_eq_true] at hok
    obtain ⟨q1, q2, q3, q4, q5, q6⟩ := hok
    first | exact bf c7 q1 | exact bf c17 q2 | exact bf c27 q3 | exact bf c39 q4 | exact bf c47 q5 | exact bf c58 q6
  · refine lv_iload_n hx hb dX5_crane_10 rfl (lv_at hl 2 rfl) ?_
    refine lv_iconst (v := (nI 0)) hx hb dX5_crane_11 (by decide) ?_
    refine lv_bipush (v := (nI 15)) hx hb dX5_crane_12 (by decide) ?_
    refine z_callS (As := [.int z, .int (nI 0), .int (nI 15)]) (rest := []) hF hK (c_X5_in l D y z (nI 0) (nI 15) ) (va_cwS 3 hts gX5_crane_X5_in rfl rfl rfl (by decide +kernel) ⟨Nat.le_of_ble_eq_true rfl, Nat.le_of_ble_eq_true rfl⟩) trivial rfl hl.1 rfl (Nat.le_of_ble_eq_true rfl) dX5_crane_14 ⟨Nat.zero_le _, Nat.zero_le _⟩ ?_
    refine z_ifeq (tgt := 61) hx hb dX5_crane_17 (by decide) (fun c17 => ?_) (fun c17 => ?_)
    · exfalso
      unfold okCr at hok
      simp only [Bool.and_eq_true] at hok
      obtain ⟨q1, q2, q3, q4, q5, q6⟩ := hok
      first | exact bf c7 q1 | exact bf c17 q2 | exact bf c27 q3 | exact bf c39 q4 | exact bf c47 q5 | exact bf c58 q6
    · refine lv_iload_n hx hb dX5_crane_20 rfl (lv_at hl 3 rfl) ?_
      refine lv_iconst (v := (nI 1)) hx hb dX5_crane_21 (by decide) ?_
      refine lv_bipush (v := (nI 8)) hx hb dX5_crane_22 (by decide) ?_
      refine z_callS (As := [.int r, .int (nI 1), .int (nI 8)]) (rest := []) hF hK (c_X5_in l D y r (nI 1) (nI 8) ) (va_cwS 3 hts gX5_crane_X5_in rfl rfl rfl (by decide +kernel) ⟨Nat.le_of_ble_eq_true rfl, Nat.le_of_ble_eq_true rfl⟩) trivial rfl hl.1 rfl (Nat.le_of_ble_eq_true rfl) dX5_crane_24 ⟨Nat.zero_le _, Nat.zero_le _⟩ ?_
      refine z_ifeq (tgt := 61) hx hb dX5_crane_27 (by decide) (fun c27 => ?_) (fun c27 => ?_)
      · exfalso
        unfold okCr at hok
        simp only [Bool.and_eq_true] at hok
        obtain ⟨q1, q2, q3, q4, q5, q6⟩ := hok
        first | exact bf c7 q1 | exact bf c17 q2 | exact bf c27 q3 | exact bf c39 q4 | exact bf c47 q5 | exact bf c58 q6
      · refine lv_iload hx hb dX5_crane_30 (lv_at hl 4 rfl) ?_
        refine lv_bipush (v := (nI 10)) hx hb dX5_crane_32 (by decide) ?_
        refine lv_bipush (v := (nI 99)) hx hb dX5_crane_34 (by decide) ?_
        refine z_callS (As := [.int h, .int (nI 10), .int (nI 99)]) (rest := []) hF hK (c_X5_in l D y h (nI 10) (nI 99) ) (va_cwS 3 hts gX5_crane_X5_in rfl rfl rfl (by decide +kernel) ⟨Nat.le_of_ble_eq_true rfl, Nat.le_of_ble_eq_true rfl⟩) trivial rfl hl.1 rfl (Nat.le_of_ble_eq_true rfl) dX5_crane_36 ⟨Nat.zero_le _, Nat.zero_le _⟩ ?_
        refine z_ifeq (tgt := 61) hx hb dX5_crane_39 (by decide) (fun c39 => ?_) (fun c39 => ?_)
        · exfalso
          unfold okCr at hok
          simp only [Bool.and_eq_true] at hok
          obtain ⟨q1, q2, q3, q4, q5, q6⟩ := hok
          first | exact bf c7 q1 | exact bf c17 q2 | exact bf c27 q3 | exact bf c39 q4 | exact bf c47 q5 | exact bf c58 q6
        · refine lv_iload hx hb dX5_crane_42 (lv_at hl 5 rfl) ?_
          refine z_callS (As := [.int sg]) (rest := []) hF hK (c_X5_isStreet l D y sg ) (va_cwS 1 hts gX5_crane_X5_isStreet rfl rfl rfl (by decide +kernel) ⟨Nat.le_of_ble_eq_true rfl, Nat.le_of_ble_eq_true rfl⟩) trivial rfl hl.1 rfl (Nat.le_of_ble_eq_true rfl) dX5_crane_44 ⟨Nat.zero_le _, Nat.zero_le _⟩ ?_
          refine z_ifeq (tgt := 61) hx hb dX5_crane_47 (by decide) (fun c47 => ?_) (fun c47 => ?_)
          · exfalso
            unfold okCr at hok
            simp only [Bool.and_eq_true] at hok
            obtain ⟨q1, q2, q3, q4, q5, q6⟩ := hok
            first | exact bf c7 q1 | exact bf c17 q2 | exact bf c27 q3 | exact bf c39 q4 | exact bf c47 q5 | exact bf c58 q6
          · refine lv_iload hx hb dX5_crane_50 (lv_at hl 6 rfl) ?_
            refine lv_iconst (v := (nI 1)) hx hb dX5_crane_52 (by decide) ?_
            refine lv_bipush (v := (nI 9)) hx hb dX5_crane_53 (by decide) ?_
            refine z_callS (As := [.int no, .int (nI 1), .int (nI 9)]) (rest := []) hF hK (c_X5_in l D y no (nI 1) (nI 9) ) (va_cwS 3 hts gX5_crane_X5_in rfl rfl rfl (by decide +kernel) ⟨Nat.le_of_ble_eq_true rfl, Nat.le_of_ble_eq_true rfl⟩) trivial rfl hl.1 rfl (Nat.le_of_ble_eq_true rfl) dX5_crane_55 ⟨Nat.zero_le _, Nat.zero_le _⟩ ?_
            refine z_ifne (tgt := 65) hx hb dX5_crane_58 (by decide) (fun c58 => ?_) (fun c58 => ?_)
            · refine lv_iconst (v := (nI 0)) hx hb dX5_crane_65 (by decide) ?_
              refine lv_istore (lv' := [(7, .int (nI 0)), (0, .ref m), (1, .int x), (2, .int z), (3, .int r), (4, .int h), (5, .int sg), (6, .int no)]) hx hb dX5_crane_66 hl (by decide) rfl (fun ls hl => ?_)
              refine z_loopW (S := Nat) (nL := 8) (fun (i : Nat) => nC d - i) (fun (i : Nat) => [(7, .int (nI i)), (0, .ref m), (1, .int x), (2, .int z), (3, .int r), (4, .int h), (5, .int sg), (6, .int no)]) (fun (i : Nat) (H : Heap) (locs : List Loc) => va_P D vwCl (mWs y m d was as tx gt (nI k) ty pa rs) H ∧ va_S (blk m 6) s.heap H locs ∧ (i ≤ nC d ∧ ∀ j, j < i → hasP d x z j = false)) 0 ⟨hP, hS, ⟨Nat.zero_le _, fun j hj => absurd hj (Nat.not_lt_zero j)⟩⟩ (lv_sub hl [0, 1, 2, 3, 4, 5, 6, 7] rfl) ?_
              clear hl hP hS
              rintro i H1 locs ls ⟨hP, hS, hI_68⟩ hl ih_68
              obtain ⟨hi, hall⟩ := hI_68
              refine lv_iload hx hb dX5_crane_68 (lv_at hl 0 rfl) ?_
              refine lv_aload_n hx hb dX5_crane_70 rfl (lv_at hl 1 rfl) ?_
              refine z_get (fs := [.ref (m + 1), .ref (m + 2), .int (nI k), .ref (m + 3), .ref (m + 4), .int ty, .int pa, .int rs, .ref (m + 5)]) (ref := "CranePermitsModel") (C := RX5) (T := TX5) (N := 9) (ci := 5) (v := .ref (m + 1)) hx hb hts i_c_X5_crane_ok_X5 hown hK (hP 0 _ rfl) 0 (by decide) rfl (hts (.fieldLink RX5 7 "CranePermitsModel" "d" "[I") (List.mem_of_getElem? (i := 1) rfl)) rfl rfl dX5_crane_71 ?_
              refine lv_iconst (v := (nI 0)) hx hb dX5_crane_74 (by decide) ?_
              refine z_iald (f := d) hx hb hK (hP 1 _ rfl) (by omega) (by decide) dX5_crane_75 ?_
              refine z_topi (z := (nI (nC d))) (hI.nc) ?_
              refine z_ge (tgt := 111) hx hb (by omega) (by omega) dX5_crane_76 (by decide) (fun c76 => ?_) (fun c76 => ?_)
              · refine lv_aload_n hx hb dX5_crane_111 rfl (lv_at hl 1 rfl) ?_
                refine z_get (fs := [.ref (m + 1), .ref (m + 2), .int (nI k), .ref (m + 3), .ref (m + 4), .int ty, .int pa, .int rs, .ref (m + 5)]) (ref := "CranePermitsModel") (C := RX5) (T := TX5) (N := 9) (ci := 5) (v := .ref (m + 1)) hx hb hts i_c_X5_crane_ok_X5 hown hK (hP 0 _ rfl) 0 (by decide) rfl (hts (.fieldLink RX5 7 "CranePermitsModel" "d" "[I") (List.mem_of_getElem? (i := 1) rfl)) rfl rfl dX5_crane_112 ?_
                refine lv_iconst (v := (nI 0)) hx hb dX5_crane_115 (by decide) ?_
                refine z_iald (f := d) hx hb hK (hP 1 _ rfl) (by omega) (by decide) dX5_crane_116 ?_
                refine z_topi (z := (nI (nC d))) (hI.nc) ?_
                refine lv_bipush (v := (nI 8)) hx hb dX5_crane_117 (by decide) ?_
                refine z_ne (tgt := 126) hx hb (by omega) (by omega) dX5_crane_119 (by decide) (fun c119 => ?_) (fun c119 => ?_)
                · refine lv_aload_n hx hb dX5_crane_126 rfl (lv_at hl 1 rfl) ?_
                  refine w_callV (As := []) (rest := []) hF hK (c_X5_records l D y m d was as tx gt k ty pa rs (by omega)) (cwV 0 hts gX5_crane_X5_records rfl rfl rfl (by decide +kernel) ⟨Nat.le_of_ble_eq_true rfl, Nat.le_of_ble_eq_true rfl⟩) (z_recv (q := (RX5, TX5, 9)) hK (hP 0 _ rfl) rfl) hP hS (fun q h => h) rfl hl.1 rfl (Nat.le_of_ble_eq_true rfl) dX5_crane_127 ⟨Nat.zero_le _, Nat.zero_le _⟩ (fun H2 locs1 hP hz hk hS => ?_)
                  have hP : va_P D vwCl (mWs y m d (recW d was k) as tx gt (nI (recN k)) ty pa rs) H2 := hP
                  clear hz hk
                  refine lv_iconst (v := (nI 4)) hx hb dX5_crane_130 (by decide) ?_
                  refine lv_bipush (v := (nI 6)) hx hb dX5_crane_131 (by decide) ?_
                  refine lv_aload_n hx hb dX5_crane_133 rfl (lv_at hl 1 rfl) ?_
                  refine z_get (fs := [.ref (m + 1), .ref (m + 2), .int (nI (recN k)), .ref (m + 3), .ref (m + 4), .int ty, .int pa, .int rs, .ref (m + 5)]) (ref := "CranePermitsModel") (C := RX5) (T := TX5) (N := 9) (ci := 5) (v := .ref (m + 1)) hx hb hts i_c_X5_crane_ok_X5 hown hK (hP 0 _ rfl) 0 (by decide) rfl (hts (.fieldLink RX5 7 "CranePermitsModel" "d" "[I") (List.mem_of_getElem? (i := 1) rfl)) rfl rfl dX5_crane_134 ?_
                  refine lv_iconst (v := (nI 0)) hx hb dX5_crane_137 (by decide) ?_
                  refine z_iald (f := d) hx hb hK (hP 1 _ rfl) (by omega) (by decide) dX5_crane_138 ?_
                  refine z_topi (z := (nI (nC d))) (hI.nc) ?_
                  refine z_imul hx hb dX5_crane_139 ?_
                  refine z_iadd hx hb dX5_crane_140 ?_
                  refine lv_istore (lv' := [(7, .int (nI (4 + (6 * (nC d))))), (0, .ref m), (1, .int x), (2, .int z), (3, .int r), (4, .int h), (5, .int sg), (6, .int no)]) hx hb dX5_crane_141 hl (by decide) rfl (fun ls hl => ?_)
                  refine lv_aload_n hx hb dX5_crane_143 rfl (lv_at hl 1 rfl) ?_
                  refine z_get (fs := [.ref (m + 1), .ref (m + 2), .int (nI (recN k)), .ref (m + 3), .ref (m + 4), .int ty, .int pa, .int rs, .ref (m + 5)]) (ref := "CranePermitsModel") (C := RX5) (T := TX5) (N := 9) (ci := 5) (v := .ref (m + 1)) hx hb hts i_c_X5_crane_ok_X5 hown hK (hP 0 _ rfl) 0 (by decide) rfl (hts (.fieldLink RX5 7 "CranePermitsModel" "d" "[I") (List.mem_of_getElem? (i := 1) rfl)) rfl rfl dX5_crane_144 ?_
                  refine lv_iload hx hb dX5_crane_147 (lv_at hl 0 rfl) ?_
                  refine lv_iload_n hx hb dX5_crane_149 rfl (lv_at hl 2 rfl) ?_
                  refine y_iast (a := (m + 1)) (f := d) (i := (4 + (6 * (nC d)))) hx hb hK (hP 1 _ rfl) (by omega) (by decide) dX5_crane_150 (fun H3 hU hV => ?_)
                  have hS := hS.upd (x := (4 + (6 * (nC d)))) hU (blk_in (by omega) (by omega))
                  have hP : va_P D vwCl (mWs y m (upd d (4 + (6 * (nC d))) x) (recW d was k) as tx gt (nI (recN k)) ty pa rs) H3 := hP.upd (q0 := 1) mWs_D rfl hU hV
                  clear hU hV
                  refine lv_aload_n hx hb dX5_crane_151 rfl (lv_at hl 1 rfl) ?_
                  refine z_get (fs := [.ref (m + 1), .ref (m + 2), .int (nI (recN k)), .ref (m + 3), .ref (m + 4), .int ty, .int pa, .int rs, .ref (m + 5)]) (ref := "CranePermitsModel") (C := RX5) (T := TX5) (N := 9) (ci := 5) (v := .ref (m + 1)) hx hb hts i_c_X5_crane_ok_X5 hown hK (hP 0 _ rfl) 0 (by decide) rfl (hts (.fieldLink RX5 7 "CranePermitsModel" "d" "[I") (List.mem_of_getElem? (i := 1) rfl)) rfl rfl dX5_crane_152 ?_
                  refine lv_iload hx hb dX5_crane_155 (lv_at hl 0 rfl) ?_
                  refine lv_iconst (v := (nI 1)) hx hb dX5_crane_157 (by decide) ?_
                  refine z_iadd hx hb dX5_crane_158 ?_
                  refine lv_iload_n hx hb dX5_crane_159 rfl (lv_at hl 3 rfl) ?_
                  refine y_iast (a := (m + 1)) (f := (upd d (4 + (6 * (nC d))) x)) (i := ((4 + (6 * (nC d))) + 1)) hx hb hK (hP 1 _ rfl) (by omega) (by decide) dX5_crane_160 (fun H4 hU hV => ?_)
                  have hS := hS.upd (x := ((4 + (6 * (nC d))) + 1)) hU (blk_in (by omega) (by omega))
                  have hP : va_P D vwCl (mWs y m (upd (upd d (4 + (6 * (nC d))) x) ((4 + (6 * (nC d))) + 1) z) (recW d was k) as tx gt (nI (recN k)) ty pa rs) H4 := hP.upd (q0 := 1) mWs_D rfl hU hV
                  clear hU hV
                  refine lv_aload_n hx hb dX5_crane_161 rfl (lv_at hl 1 rfl) ?_
                  refine z_get (fs := [.ref (m + 1), .ref (m + 2), .int (nI (recN k)), .ref (m + 3), .ref (m + 4), .int ty, .int pa, .int rs, .ref (m + 5)]) (ref := "CranePermitsModel") (C := RX5) (T := TX5) (N := 9) (ci := 5) (v := .ref (m + 1)) hx hb hts i_c_X5_crane_ok_X5 hown hK (hP 0 _ rfl) 0 (by decide) rfl (hts (.fieldLink RX5 7 "CranePermitsModel" "d" "[I") (List.mem_of_getElem? (i := 1) rfl)) rfl rfl dX5_crane_162 ?_
                  refine lv_iload hx hb dX5_crane_165 (lv_at hl 0 rfl) ?_
                  refine lv_iconst (v := (nI 2)) hx hb dX5_crane_167 (by decide) ?_
                  refine z_iadd hx hb dX5_crane_168 ?_
                  refine lv_iload_n hx hb dX5_crane_169 rfl (lv_at hl 4 rfl) ?_
                  refine y_iast (a := (m + 1)) (f := (upd (upd d (4 + (6 * (nC d))) x) ((4 + (6 * (nC d))) + 1) z)) (i := ((4 + (6 * (nC d))) + 2)) hx hb hK (hP 1 _ rfl) (by omega) (by decide) dX5_crane_170 (fun H5 hU hV => ?_)
                  have hS := hS.upd (x := ((4 + (6 * (nC d))) + 2)) hU (blk_in (by omega) (by omega))
                  have hP : va_P D vwCl (mWs y m (upd (upd (upd d (4 + (6 * (nC d))) x) ((4 + (6 * (nC d))) + 1) z) ((4 + (6 * (nC d))) + 2) r) (recW d was k) as tx gt (nI (recN k)) ty pa rs) H5 := hP.upd (q0 := 1) mWs_D rfl hU hV
                  clear hU hV
                  refine lv_aload_n hx hb dX5_crane_171 rfl (lv_at hl 1 rfl) ?_
                  refine z_get (fs := [.ref (m + 1), .ref (m + 2), .int (nI (recN k)), .ref (m + 3), .ref (m + 4), .int ty, .int pa, .int rs, .ref (m + 5)]) (ref := "CranePermitsModel") (C := RX5) (T := TX5) (N := 9) (ci := 5) (v := .ref (m + 1)) hx hb hts i_c_X5_crane_ok_X5 hown hK (hP 0 _ rfl) 0 (by decide) rfl (hts (.fieldLink RX5 7 "CranePermitsModel" "d" "[I") (List.mem_of_getElem? (i := 1) rfl)) rfl rfl dX5_crane_172 ?_
                  refine lv_iload hx hb dX5_crane_175 (lv_at hl 0 rfl) ?_
                  refine lv_iconst (v := (nI 3)) hx hb dX5_crane_177 (by decide) ?_
                  refine z_iadd hx hb dX5_crane_178 ?_
                  refine lv_iload hx hb dX5_crane_179 (lv_at hl 5 rfl) ?_
                  refine y_iast (a := (m + 1)) (f := (upd (upd (upd d (4 + (6 * (nC d))) x) ((4 + (6 * (nC d))) + 1) z) ((4 + (6 * (nC d))) + 2) r)) (i := ((4 + (6 * (nC d))) + 3)) hx hb hK (hP 1 _ rfl) (by omega) (by decide) dX5_crane_181 (fun H6 hU hV => ?_)
                  have hS := hS.upd (x := ((4 + (6 * (nC d))) + 3)) hU (blk_in (by omega) (by omega))
                  have hP : va_P D vwCl (mWs y m (upd (upd (upd (upd d (4 + (6 * (nC d))) x) ((4 + (6 * (nC d))) + 1) z) ((4 + (6 * (nC d))) + 2) r) ((4 + (6 * (nC d))) + 3) h) (recW d was k) as tx gt (nI (recN k)) ty pa rs) H6 := hP.upd (q0 := 1) mWs_D rfl hU hV
                  clear hU hV
                  refine lv_aload_n hx hb dX5_crane_182 rfl (lv_at hl 1 rfl) ?_
                  refine z_get (fs := [.ref (m + 1), .ref (m + 2), .int (nI (recN k)), .ref (m + 3), .ref (m + 4), .int ty, .int pa, .int rs, .ref (m + 5)]) (ref := "CranePermitsModel") (C := RX5) (T := TX5) (N := 9) (ci := 5) (v := .ref (m + 1)) hx hb hts i_c_X5_crane_ok_X5 hown hK (hP 0 _ rfl) 0 (by decide) rfl (hts (.fieldLink RX5 7 "CranePermitsModel" "d" "[I") (List.mem_of_getElem? (i := 1) rfl)) rfl rfl dX5_crane_183 ?_
                  refine lv_iload hx hb dX5_crane_186 (lv_at hl 0 rfl) ?_
                  refine lv_iconst (v := (nI 4)) hx hb dX5_crane_188 (by decide) ?_
                  refine z_iadd hx hb dX5_crane_189 ?_
                  refine lv_iload hx hb dX5_crane_190 (lv_at hl 6 rfl) ?_
                  refine y_iast (a := (m + 1)) (f := (upd (upd (upd (upd d (4 + (6 * (nC d))) x) ((4 + (6 * (nC d))) + 1) z) ((4 + (6 * (nC d))) + 2) r) ((4 + (6 * (nC d))) + 3) h)) (i := ((4 + (6 * (nC d))) + 4)) hx hb hK (hP 1 _ rfl) (by omega) (by decide) dX5_crane_192 (fun H7 hU hV => ?_)
                  have hS := hS.upd (x := ((4 + (6 * (nC d))) + 4)) hU (blk_in (by omega) (by omega))
                  have hP : va_P D vwCl (mWs y m (upd (upd (upd (upd (upd d (4 + (6 * (nC d))) x) ((4 + (6 * (nC d))) + 1) z) ((4 + (6 * (nC d))) + 2) r) ((4 + (6 * (nC d))) + 3) h) ((4 + (6 * (nC d))) + 4) sg) (recW d was k) as tx gt (nI (recN k)) ty pa rs) H7 := hP.upd (q0 := 1) mWs_D rfl hU hV
                  clear hU hV
                  refine lv_aload_n hx hb dX5_crane_193 rfl (lv_at hl 1 rfl) ?_
                  refine z_get (fs := [.ref (m + 1), .ref (m + 2), .int (nI (recN k)), .ref (m + 3), .ref (m + 4), .int ty, .int pa, .int rs, .ref (m + 5)]) (ref := "CranePermitsModel") (C := RX5) (T := TX5) (N := 9) (ci := 5) (v := .ref (m + 1)) hx hb hts i_c_X5_crane_ok_X5 hown hK (hP 0 _ rfl) 0 (by decide) rfl (hts (.fieldLink RX5 7 "CranePermitsModel" "d" "[I") (List.mem_of_getElem? (i := 1) rfl)) rfl rfl dX5_crane_194 ?_
                  refine lv_iload hx hb dX5_crane_197 (lv_at hl 0 rfl) ?_
                  refine lv_iconst (v := (nI 5)) hx hb dX5_crane_199 (by decide) ?_
                  refine z_iadd hx hb dX5_crane_200 ?_
                  refine lv_iload hx hb dX5_crane_201 (lv_at hl 7 rfl) ?_
                  refine y_iast (a := (m + 1)) (f := (upd (upd (upd (upd (upd d (4 + (6 * (nC d))) x) ((4 + (6 * (nC d))) + 1) z) ((4 + (6 * (nC d))) + 2) r) ((4 + (6 * (nC d))) + 3) h) ((4 + (6 * (nC d))) + 4) sg)) (i := ((4 + (6 * (nC d))) + 5)) hx hb hK (hP 1 _ rfl) (by omega) (by decide) dX5_crane_203 (fun H8 hU hV => ?_)
                  have hS := hS.upd (x := ((4 + (6 * (nC d))) + 5)) hU (blk_in (by omega) (by omega))
                  have hP : va_P D vwCl (mWs y m (upd (upd (upd (upd (upd (upd d (4 + (6 * (nC d))) x) ((4 + (6 * (nC d))) + 1) z) ((4 + (6 * (nC d))) + 2) r) ((4 + (6 * (nC d))) + 3) h) ((4 + (6 * (nC d))) + 4) sg) ((4 + (6 * (nC d))) + 5) no) (recW d was k) as tx gt (nI (recN k)) ty pa rs) H8 := hP.upd (q0 := 1) mWs_D rfl hU hV
                  clear hU hV
                  refine lv_aload_n hx hb dX5_crane_204 rfl (lv_at hl 1 rfl) ?_
                  refine z_get (fs := [.ref (m + 1), .ref (m + 2), .int (nI (recN k)), .ref (m + 3), .ref (m + 4), .int ty, .int pa, .int rs, .ref (m + 5)]) (ref := "CranePermitsModel") (C := RX5) (T := TX5) (N := 9) (ci := 5) (v := .ref (m + 1)) hx hb hts i_c_X5_crane_ok_X5 hown hK (hP 0 _ rfl) 0 (by decide) rfl (hts (.fieldLink RX5 7 "CranePermitsModel" "d" "[I") (List.mem_of_getElem? (i := 1) rfl)) rfl rfl dX5_crane_205 ?_
                  refine lv_iconst (v := (nI 0)) hx hb dX5_crane_208 (by decide) ?_
                  refine lv_dup2_11 hx hb dX5_crane_209 rfl rfl ?_
                  refine z_iald (f := (upd (upd (upd (upd (upd (upd d (4 + (6 * (nC d))) x) ((4 + (6 * (nC d))) + 1) z) ((4 + (6 * (nC d))) + 2) r) ((4 + (6 * (nC d))) + 3) h) ((4 + (6 * (nC d))) + 4) sg) ((4 + (6 * (nC d))) + 5) no)) hx hb hK (hP 1 _ rfl) (by omega) (by decide) dX5_crane_210 ?_
                  refine z_topi (z := (nI (nC d))) ((pk_un (by omega)).trans ((pk_un (by omega)).trans ((pk_un (by omega)).trans ((pk_un (by omega)).trans ((pk_un (by omega)).trans ((pk_un (by omega)).trans hI.nc)))))) ?_
                  refine lv_iconst (v := (nI 1)) hx hb dX5_crane_211 (by decide) ?_
                  refine lv_iadd hx hb dX5_crane_212 ?_
                  refine y_iast (a := (m + 1)) (f := (upd (upd (upd (upd (upd (upd d (4 + (6 * (nC d))) x) ((4 + (6 * (nC d))) + 1) z) ((4 + (6 * (nC d))) + 2) r) ((4 + (6 * (nC d))) + 3) h) ((4 + (6 * (nC d))) + 4) sg) ((4 + (6 * (nC d))) + 5) no)) (i := 0) hx hb hK (hP 1 _ rfl) (by omega) (by decide) dX5_crane_213 (fun H9 hU hV => ?_)
                  have hS := hS.upd (x := 0) hU (blk_in (by omega) (by omega))
                  have hP : va_P D vwCl (mWs y m (upd (upd (upd (upd (upd (upd (upd d (4 + (6 * (nC d))) x) ((4 + (6 * (nC d))) + 1) z) ((4 + (6 * (nC d))) + 2) r) ((4 + (6 * (nC d))) + 3) h) ((4 + (6 * (nC d))) + 4) sg) ((4 + (6 * (nC d))) + 5) no) 0 ((nI (nC d)) + (nI 1))) (recW d was k) as tx gt (nI (recN k)) ty pa rs) H9 := hP.upd (q0 := 1) mWs_D rfl hU hV
                  clear hU hV
                  refine lv_aload_n hx hb dX5_crane_214 rfl (lv_at hl 1 rfl) ?_
                  refine z_get (fs := [.ref (m + 1), .ref (m + 2), .int (nI (recN k)), .ref (m + 3), .ref (m + 4), .int ty, .int pa, .int rs, .ref (m + 5)]) (ref := "CranePermitsModel") (C := RX5) (T := TX5) (N := 9) (ci := 5) (v := .ref (m + 1)) hx hb hts i_c_X5_crane_ok_X5 hown hK (hP 0 _ rfl) 0 (by decide) rfl (hts (.fieldLink RX5 7 "CranePermitsModel" "d" "[I") (List.mem_of_getElem? (i := 1) rfl)) rfl rfl dX5_crane_215 ?_
                  refine lv_iconst (v := (nI 0)) hx hb dX5_crane_218 (by decide) ?_
                  refine z_iald (f := (upd (upd (upd (upd (upd (upd (upd d (4 + (6 * (nC d))) x) ((4 + (6 * (nC d))) + 1) z) ((4 + (6 * (nC d))) + 2) r) ((4 + (6 * (nC d))) + 3) h) ((4 + (6 * (nC d))) + 4) sg) ((4 + (6 * (nC d))) + 5) no) 0 ((nI (nC d)) + (nI 1)))) hx hb hK (hP 1 _ rfl) (by omega) (by decide) dX5_crane_219 ?_
                  refine z_topi (z := (nI (nC d) + nI 1)) (pk_us) ?_
                  refine lv_iconst (v := (nI 1)) hx hb dX5_crane_220 (by decide) ?_
                  refine lv_isub hx hb dX5_crane_221 ?_
                  exact w_reti hx hb hr hlocks hS (hP) (by rw [Int32.add_sub_cancel]) dX5_crane_222
                · exact absurd c119 (by omega)
              · refine lv_aload_n hx hb dX5_crane_79 rfl (lv_at hl 1 rfl) ?_
                refine lv_iload hx hb dX5_crane_80 (lv_at hl 0 rfl) ?_
                refine lv_iconst (v := (nI 0)) hx hb dX5_crane_82 (by decide) ?_
                refine z_callV (As := [.int (nI i), .int (nI 0)]) (rest := []) hF hK (c_X5_craned l D y m d i 0 (by omega) (by omega)) (cwV 2 hts gX5_crane_X5_craned rfl rfl rfl (by decide +kernel) ⟨Nat.le_of_ble_eq_true rfl, Nat.le_of_ble_eq_true rfl⟩) (z_recv (q := (RX5, TX5, 9)) hK (hP 0 _ rfl) rfl) (zM_of hP) rfl hl.1 rfl (Nat.le_of_ble_eq_true rfl) dX5_crane_83 ⟨Nat.zero_le _, Nat.zero_le _⟩ ?_
                refine lv_iload_n hx hb dX5_crane_86 rfl (lv_at hl 2 rfl) ?_
                refine lv_icmp_ne (tgt := 105) hx hb dX5_crane_87 (by decide) (fun c87 => ?_) (fun c87 => ?_)
                · refine lv_iinc (v := (nI (i + 1))) (lv' := [(7, .int (nI (i + 1))), (0, .ref m), (1, .int x), (2, .int z), (3, .int r), (4, .int h), (5, .int sg), (6, .int no)]) hx hb dX5_crane_105 hl (k := 0) rfl (in1 _) (by decide) rfl (fun ls hl => ?_)
                  refine lv_goto (tgt := 68) hx hb dX5_crane_108 (by decide) ?_
                  exact ih_68 (i + 1) _ _ _ (by omega) ⟨hP, hS, by refine ⟨by omega, lt_sc hall ?_⟩; unfold hasP; first | (rw [decide_eq_false c87]; rfl) | (rw [decide_eq_false c98]; exact Bool.and_false _)⟩ (lv_sub hl [0, 1, 2, 3, 4, 5, 6, 7] rfl)
                · refine lv_aload_n hx hb dX5_crane_90 rfl (lv_at hl 1 rfl) ?_
                  refine lv_iload hx hb dX5_crane_91 (lv_at hl 0 rfl) ?_
                  refine lv_iconst (v := (nI 1)) hx hb dX5_crane_93 (by decide) ?_
                  refine z_callV (As := [.int (nI i), .int (nI 1)]) (rest := []) hF hK (c_X5_craned l D y m d i 1 (by omega) (by omega)) (cwV 2 hts gX5_crane_X5_craned rfl rfl rfl (by decide +kernel) ⟨Nat.le_of_ble_eq_true rfl, Nat.le_of_ble_eq_true rfl⟩) (z_recv (q := (RX5, TX5, 9)) hK (hP 0 _ rfl) rfl) (zM_of hP) rfl hl.1 rfl (Nat.le_of_ble_eq_true rfl) dX5_crane_94 ⟨Nat.zero_le _, Nat.zero_le _⟩ ?_
                  refine lv_iload_n hx hb dX5_crane_97 rfl (lv_at hl 3 rfl) ?_
                  refine lv_icmp_ne (tgt := 105) hx hb dX5_crane_98 (by decide) (fun c98 => ?_) (fun c98 => ?_)
                  · refine lv_iinc (v := (nI (i + 1))) (lv' := [(7, .int (nI (i + 1))), (0, .ref m), (1, .int x), (2, .int z), (3, .int r), (4, .int h), (5, .int sg), (6, .int no)]) hx hb dX5_crane_105 hl (k := 0) rfl (in1 _) (by decide) rfl (fun ls hl => ?_)
                    refine lv_goto (tgt := 68) hx hb dX5_crane_108 (by decide) ?_
                    exact ih_68 (i + 1) _ _ _ (by omega) ⟨hP, hS, by refine ⟨by omega, lt_sc hall ?_⟩; unfold hasP; first | (rw [decide_eq_false c87]; rfl) | (rw [decide_eq_false c98]; exact Bool.and_false _)⟩ (lv_sub hl [0, 1, 2, 3, 4, 5, 6, 7] rfl)
                  · exact absurd hh (by rw [hasC, any_t (i := i) (by omega) (show hasP d x z i = true by unfold hasP; rw [decide_eq_true c87, decide_eq_true c98]; rfl)]; decide)
            · exfalso
              unfold okCr at hok
              simp only [Bool.and_eq_true] at hok
              obtain ⟨q1, q2, q3, q4, q5, q6⟩ := hok
              first | exact bf c7 q1 | exact bf c17 q2 | exact bf c27 q3 | exact bf c39 q4 | exact bf c47 q5 | exact bf c58 q6
theorem i_c_X5_crane_no_X5 : ∀ w ∈ wsX50, w ∈ wsX5_crane := fun w h => (List.mem_cons_of_mem _ (List.mem_append_right _ h))
set_option maxRecDepth 100000 in
set_option maxHeartbeats 4000000 in
theorem c_X5_crane_no (l : Launch) (D : va_G) (y : zY) (m : Nat) (d : Nat → Int32) (was : Nat → Int32) (as : Nat → Int32) (tx : Nat → Int32) (gt : Nat → Int32) (k : Nat) (ty : Int32) (pa : Int32) (rs : Int32) (x : Int32) (z : Int32) (r : Int32) (h : Int32) (sg : Int32) (no : Int32) (hI : zI d) (hk4 : k ≤ 4) (hno : ¬ (okCr x z r h sg no = true ∧ hasC d x z = false ∧ nC d < 8)) : Met l yX5_crane wsX5_crane ({ frames := 2, cells := 0, slots := 0, locals := 42 }) (zP [.ref m, .int x, .int z, .int r, .int h, .int sg, .int no] (va_P D vwCl (mWs y m d was as tx gt (nI k) ty pa rs)) D y) (zW (some (.int (eCrane d x z r h sg no))) (va_P D vwCl (mWs y m d was as tx gt (nI k) ty pa rs)) (blk m 6)) 0 0 (blk m 6) := by
  refine z_body (cc := cX5_crane) (maxL := 8) (ret := (some .int)) (la := [(0, .ref m), (1, .int x), (2, .int z), (3, .int r), (4, .int h), (5, .int sg), (6, .int no)]) (by decide) rfl (Nat.le_of_ble_eq_true rfl) rfl ?_
  intro pg ev s mm below meth c0 ls hx hb hr hF hlocks hΦ hK hl _
  have hts := hF.2.2.2.2
  have hown : s.vm.findClass RX5 = some mm.cls := hF.2.2.2.1
  have hP : va_P D vwCl (mWs y m d was as tx gt (nI k) ty pa rs) s.heap := hΦ
  have hS : va_S (blk m 6) s.heap s.heap [] := va_S.rf
  have hG2 := hI.ng2
  have hC8 := hI.nc8
  have hrk := recN_le hk4
  refine lv_iload_n hx hb dX5_crane_0 rfl (lv_at hl 1 rfl) ?_
  refine lv_iconst (v := (nI 0)) hx hb dX5_crane_1 (by decide) ?_
  refine lv_bipush (v := (nI 15)) hx hb dX5_crane_2 (by decide) ?_
  refine z_callS (As := [.int x, .int (nI 0), .int (nI 15)]) (rest := []) hF hK (c_X5_in l D y x (nI 0) (nI 15) ) (va_cwS 3 hts gX5_crane_X5_in rfl rfl rfl (by decide +kernel) ⟨Nat.le_of_ble_eq_true rfl, Nat.le_of_ble_eq_true rfl⟩) trivial rfl hl.1 rfl (Nat.le_of_ble_eq_true rfl) dX5_crane_4 ⟨Nat.zero_le _, Nat.zero_le _⟩ ?_
  refine z_ifeq (tgt := 61) hx hb dX5_crane_7 (by decide) (fun c7 => ?_) (fun c7 => ?_)
  · refine lv_sipush (v := (-1001)) hx hb dX5_crane_61 (by decide) ?_
    exact w_reti hx hb hr hlocks hS (hP) (by unfold eCrane; rw [if_neg (show ¬ okCr x z r h sg no = true from bf (by unfold okCr; first | (rw [c7]; rfl) | (rw [c17]; cases inB x (nI 0) (nI 15) <;> rfl) | (rw [c7, c17, c27]; rfl) | (rw [c7, c17, c27, c39]; rfl) | (rw [c7, c17, c27, c39, c47]; rfl) | (rw [c7, c17, c27, c39, c47, c58]; rfl)))]) dX5_crane_64
  · refine lv_iload_n hx hb dX5_crane_10 rfl (lv_at hl 2 rfl) ?_
    refine lv_iconst (v := (nI 0)) hx hb dX5_crane_11 (by decide) ?_
    refine lv_bipush (v := (nI 15)) hx hb dX5_crane_12 (by decide) ?_
    refine z_callS (As := [.int z, .int (nI 0), .int (nI 15)]) (rest := []) hF hK (c_X5_in l D y z (nI 0) (nI 15) ) (va_cwS 3 hts gX5_crane_X5_in rfl rfl rfl (by decide +kernel) ⟨Nat.le_of_ble_eq_true rfl, Nat.le_of_ble_eq_true rfl⟩) trivial rfl hl.1 rfl (Nat.le_of_ble_eq_true rfl) dX5_crane_14 ⟨Nat.zero_le _, Nat.zero_le _⟩ ?_
    refine z_ifeq (tgt := 61) hx hb dX5_crane_17 (by decide) (fun c17 => ?_) (fun c17 => ?_)
    · refine lv_sipush (v := (-1001)) hx hb dX5_crane_61 (by decide) ?_
      exact w_reti hx hb hr hlocks hS (hP) (by unfold eCrane; rw [if_neg (show ¬ okCr x z r h sg no = true from bf (by unfold okCr; first | (rw [c7]; rfl) | (rw [c17]; cases inB x (nI 0) (nI 15) <;> rfl) | (rw [c7, c17, c27]; rfl) | (rw [c7, c17, c27, c39]; rfl) | (rw [c7, c17, c27, c39, c47]; rfl) | (rw [c7, c17, c27, c39, c47, c58]; rfl)))]) dX5_crane_64
    · refine lv_iload_n hx hb dX5_crane_20 rfl (lv_at hl 3 rfl) ?_
      refine lv_iconst (v := (nI 1)) hx hb dX5_crane_21 (by decide) ?_
      refine lv_bipush (v := (nI 8)) hx hb dX5_crane_22 (by decide) ?_
      refine z_callS (As := [.int r, .int (nI 1), .int (nI 8)]) (rest := []) hF hK (c_X5_in l D y r (nI 1) (nI 8) ) (va_cwS 3 hts gX5_crane_X5_in rfl rfl rfl (by decide +kernel) ⟨Nat.le_of_ble_eq_true rfl, Nat.le_of_ble_eq_true rfl⟩) trivial rfl hl.1 rfl (Nat.le_of_ble_eq_true rfl) dX5_crane_24 ⟨Nat.zero_le _, Nat.zero_le _⟩ ?_
      refine z_ifeq (tgt := 61) hx hb dX5_crane_27 (by decide) (fun c27 => ?_) (fun c27 => ?_)
      · refine lv_sipush (v := (-1001)) hx hb dX5_crane_61 (by decide) ?_
        exact w_reti hx hb hr hlocks hS (hP) (by unfold eCrane; rw [if_neg (show ¬ okCr x z r h sg no = true from bf (by unfold okCr; first | (rw [c7]; rfl) | (rw [c17]; cases inB x (nI 0) (nI 15) <;> rfl) | (rw [c7, c17, c27]; rfl) | (rw [c7, c17, c27, c39]; rfl) | (rw [c7, c17, c27, c39, c47]; rfl) | (rw [c7, c17, c27, c39, c47, c58]; rfl)))]) dX5_crane_64
      · refine lv_iload hx hb dX5_crane_30 (lv_at hl 4 rfl) ?_
        refine lv_bipush (v := (nI 10)) hx hb dX5_crane_32 (by decide) ?_
        refine lv_bipush (v := (nI 99)) hx hb dX5_crane_34 (by decide) ?_
        refine z_callS (As := [.int h, .int (nI 10), .int (nI 99)]) (rest := []) hF hK (c_X5_in l D y h (nI 10) (nI 99) ) (va_cwS 3 hts gX5_crane_X5_in rfl rfl rfl (by decide +kernel) ⟨Nat.le_of_ble_eq_true rfl, Nat.le_of_ble_eq_true rfl⟩) trivial rfl hl.1 rfl (Nat.le_of_ble_eq_true rfl) dX5_crane_36 ⟨Nat.zero_le _, Nat.zero_le _⟩ ?_
        refine z_ifeq (tgt := 61) hx hb dX5_crane_39 (by decide) (fun c39 => ?_) (fun c39 => ?_)
        · refine lv_sipush (v := (-1001)) hx hb dX5_crane_61 (by decide) ?_
          exact w_reti hx hb hr hlocks hS (hP) (by unfold eCrane; rw [if_neg (show ¬ okCr x z r h sg no = true from bf (by unfold okCr; first | (rw [c7]; rfl) | (rw [c17]; cases inB x (nI 0) (nI 15) <;> rfl) | (rw [c7, c17, c27]; rfl) | (rw [c7, c17, c27, c39]; rfl) | (rw [c7, c17, c27, c39, c47]; rfl) | (rw [c7, c17, c27, c39, c47, c58]; rfl)))]) dX5_crane_64
        · refine lv_iload hx hb dX5_crane_42 (lv_at hl 5 rfl) ?_
          refine z_callS (As := [.int sg]) (rest := []) hF hK (c_X5_isStreet l D y sg ) (va_cwS 1 hts gX5_crane_X5_isStreet rfl rfl rfl (by decide +kernel) ⟨Nat.le_of_ble_eq_true rfl, Nat.le_of_ble_eq_true rfl⟩) trivial rfl hl.1 rfl (Nat.le_of_ble_eq_true rfl) dX5_crane_44 ⟨Nat.zero_le _, Nat.zero_le _⟩ ?_
          refine z_ifeq (tgt := 61) hx hb dX5_crane_47 (by decide) (fun c47 => ?_) (fun c47 => ?_)
          · refine lv_sipush (v := (-1001)) hx hb dX5_crane_61 (by decide) ?_
            exact w_reti hx hb hr hlocks hS (hP) (by unfold eCrane; rw [if_neg (show ¬ okCr x z r h sg no = true from bf (by unfold okCr; first | (rw [c7]; rfl) | (rw [c17]; cases inB x (nI 0) (nI 15) <;> rfl) | (rw [c7, c17, c27]; rfl) | (rw [c7, c17, c27, c39]; rfl) | (rw [c7, c17, c27, c39, c47]; rfl) | (rw [c7, c17, c27, c39, c47, c58]; rfl)))]) dX5_crane_64
          · refine lv_iload hx hb dX5_crane_50 (lv_at hl 6 rfl) ?_
            refine lv_iconst (v := (nI 1)) hx hb dX5_crane_52 (by decide) ?_
            refine lv_bipush (v := (nI 9)) hx hb dX5_crane_53 (by decide) ?_
            refine z_callS (As := [.int no, .int (nI 1), .int (nI 9)]) (rest := []) hF hK (c_X5_in l D y no (nI 1) (nI 9) ) (va_cwS 3 hts gX5_crane_X5_in rfl rfl rfl (by decide +kernel) ⟨Nat.le_of_ble_eq_true rfl, Nat.le_of_ble_eq_true rfl⟩) trivial rfl hl.1 rfl (Nat.le_of_ble_eq_true rfl) dX5_crane_55 ⟨Nat.zero_le _, Nat.zero_le _⟩ ?_
            refine z_ifne (tgt := 65) hx hb dX5_crane_58 (by decide) (fun c58 => ?_) (fun c58 => ?_)
            · refine lv_iconst (v := (nI 0)) hx hb dX5_crane_65 (by decide) ?_
              refine lv_istore (lv' := [(7, .int (nI 0)), (0, .ref m), (1, .int x), (2, .int z), (3, .int r), (4, .int h), (5, .int sg), (6, .int no)]) hx hb dX5_crane_66 hl (by decide) rfl (fun ls hl => ?_)
              refine z_loopW (S := Nat) (nL := 8) (fun (i : Nat) => nC d - i) (fun (i : Nat) => [(7, .int (nI i)), (0, .ref m), (1, .int x), (2, .int z), (3, .int r), (4, .int h), (5, .int sg), (6, .int no)]) (fun (i : Nat) (H : Heap) (locs : List Loc) => va_P D vwCl (mWs y m d was as tx gt (nI k) ty pa rs) H ∧ va_S (blk m 6) s.heap H locs ∧ (i ≤ nC d ∧ ∀ j, j < i → hasP d x z j = false)) 0 ⟨hP, hS, ⟨Nat.zero_le _, fun j hj => absurd hj (Nat.not_lt_zero j)⟩⟩ (lv_sub hl [0, 1, 2, 3, 4, 5, 6, 7] rfl) ?_
              clear hl hP hS
              rintro i H1 locs ls ⟨hP, hS, hI_68⟩ hl ih_68
              obtain ⟨hi, hall⟩ := hI_68
              refine lv_iload hx hb dX5_crane_68 (lv_at hl 0 rfl) ?_
              refine lv_aload_n hx hb dX5_crane_70 rfl (lv_at hl 1 rfl) ?_
              refine z_get (fs := [.ref (m + 1), .ref (m + 2), .int (nI k), .ref (m + 3), .ref (m + 4), .int ty, .int pa, .int rs, .ref (m + 5)]) (ref := "CranePermitsModel") (C := RX5) (T := TX5) (N := 9) (ci := 5) (v := .ref (m + 1)) hx hb hts i_c_X5_crane_no_X5 hown hK (hP 0 _ rfl) 0 (by decide) rfl (hts (.fieldLink RX5 7 "CranePermitsModel" "d" "[I") (List.mem_of_getElem? (i := 1) rfl)) rfl rfl dX5_crane_71 ?_
              refine lv_iconst (v := (nI 0)) hx hb dX5_crane_74 (by decide) ?_
              refine z_iald (f := d) hx hb hK (hP 1 _ rfl) (by omega) (by decide) dX5_crane_75 ?_
              refine z_topi (z := (nI (nC d))) (hI.nc) ?_
              refine z_ge (tgt := 111) hx hb (by omega) (by omega) dX5_crane_76 (by decide) (fun c76 => ?_) (fun c76 => ?_)
              · refine lv_aload_n hx hb dX5_crane_111 rfl (lv_at hl 1 rfl) ?_
                refine z_get (fs := [.ref (m + 1), .ref (m + 2), .int (nI k), .ref (m + 3), .ref (m + 4), .int ty, .int pa, .int rs, .ref (m + 5)]) (ref := "CranePermitsModel") (C := RX5) (T := TX5) (N := 9) (ci := 5) (v := .ref (m + 1)) hx hb hts i_c_X5_crane_no_X5 hown hK (hP 0 _ rfl) 0 (by decide) rfl (hts (.fieldLink RX5 7 "CranePermitsModel" "d" "[I") (List.mem_of_getElem? (i := 1) rfl)) rfl rfl dX5_crane_112 ?_
                refine lv_iconst (v := (nI 0)) hx hb dX5_crane_115 (by decide) ?_
                refine z_iald (f := d) hx hb hK (hP 1 _ rfl) (by omega) (by decide) dX5_crane_116 ?_
                refine z_topi (z := (nI (nC d))) (hI.nc) ?_
                refine lv_bipush (v := (nI 8)) hx hb dX5_crane_117 (by decide) ?_
                refine z_ne (tgt := 126) hx hb (by omega) (by omega) dX5_crane_119 (by decide) (fun c119 => ?_) (fun c119 => ?_)
                · exfalso
                  exact hno ⟨by unfold okCr; rw [c7, c17, c27, c39, c47, c58]; rfl, any_f (fun j hj => hall j (by omega)), by omega⟩
                · refine lv_sipush (v := (-1003)) hx hb dX5_crane_122 (by decide) ?_
                  exact w_reti hx hb hr hlocks hS (hP) (by unfold eCrane; rw [if_pos (show okCr x z r h sg no = true by unfold okCr; rw [c7, c17, c27, c39, c47, c58]; rfl), if_neg (show ¬ hasC d x z = true from bf (any_f (fun j hj => hall j (by omega))))]) dX5_crane_125
              · refine lv_aload_n hx hb dX5_crane_79 rfl (lv_at hl 1 rfl) ?_
                refine lv_iload hx hb dX5_crane_80 (lv_at hl 0 rfl) ?_
                refine lv_iconst (v := (nI 0)) hx hb dX5_crane_82 (by decide) ?_
                refine z_callV (As := [.int (nI i), .int (nI 0)]) (rest := []) hF hK (c_X5_craned l D y m d i 0 (by omega) (by omega)) (cwV 2 hts gX5_crane_X5_craned rfl rfl rfl (by decide +kernel) ⟨Nat.le_of_ble_eq_true rfl, Nat.le_of_ble_eq_true rfl⟩) (z_recv (q := (RX5, TX5, 9)) hK (hP 0 _ rfl) rfl) (zM_of hP) rfl hl.1 rfl (Nat.le_of_ble_eq_true rfl) dX5_crane_83 ⟨Nat.zero_le _, Nat.zero_le _⟩ ?_
                refine lv_iload_n hx hb dX5_crane_86 rfl (lv_at hl 2 rfl) ?_
                refine lv_icmp_ne (tgt := 105) hx hb dX5_crane_87 (by decide) (fun c87 => ?_) (fun c87 => ?_)
                · refine lv_iinc (v := (nI (i + 1))) (lv' := [(7, .int (nI (i + 1))), (0, .ref m), (1, .int x), (2, .int z), (3, .int r), (4, .int h), (5, .int sg), (6, .int no)]) hx hb dX5_crane_105 hl (k := 0) rfl (in1 _) (by decide) rfl (fun ls hl => ?_)
                  refine lv_goto (tgt := 68) hx hb dX5_crane_108 (by decide) ?_
                  exact ih_68 (i + 1) _ _ _ (by omega) ⟨hP, hS, by refine ⟨by omega, lt_sc hall ?_⟩; unfold hasP; first | (rw [decide_eq_false c87]; rfl) | (rw [decide_eq_false c98]; exact Bool.and_false _)⟩ (lv_sub hl [0, 1, 2, 3, 4, 5, 6, 7] rfl)
                · refine lv_aload_n hx hb dX5_crane_90 rfl (lv_at hl 1 rfl) ?_
                  refine lv_iload hx hb dX5_crane_91 (lv_at hl 0 rfl) ?_
                  refine lv_iconst (v := (nI 1)) hx hb dX5_crane_93 (by decide) ?_
                  refine z_callV (As := [.int (nI i), .int (nI 1)]) (rest := []) hF hK (c_X5_craned l D y m d i 1 (by omega) (by omega)) (cwV 2 hts gX5_crane_X5_craned rfl rfl rfl (by decide +kernel) ⟨Nat.le_of_ble_eq_true rfl, Nat.le_of_ble_eq_true rfl⟩) (z_recv (q := (RX5, TX5, 9)) hK (hP 0 _ rfl) rfl) (zM_of hP) rfl hl.1 rfl (Nat.le_of_ble_eq_true rfl) dX5_crane_94 ⟨Nat.zero_le _, Nat.zero_le _⟩ ?_
                  refine lv_iload_n hx hb dX5_crane_97 rfl (lv_at hl 3 rfl) ?_
                  refine lv_icmp_ne (tgt := 105) hx hb dX5_crane_98 (by decide) (fun c98 => ?_) (fun c98 => ?_)
                  · refine lv_iinc (v := (nI (i + 1))) (lv' := [(7, .int (nI (i + 1))), (0, .ref m), (1, .int x), (2, .int z), (3, .int r), (4, .int h), (5, .int sg), (6, .int no)]) hx hb dX5_crane_105 hl (k := 0) rfl (in1 _) (by decide) rfl (fun ls hl => ?_)
                    refine lv_goto (tgt := 68) hx hb dX5_crane_108 (by decide) ?_
                    exact ih_68 (i + 1) _ _ _ (by omega) ⟨hP, hS, by refine ⟨by omega, lt_sc hall ?_⟩; unfold hasP; first | (rw [decide_eq_false c87]; rfl) | (rw [decide_eq_false c98]; exact Bool.and_false _)⟩ (lv_sub hl [0, 1, 2, 3, 4, 5, 6, 7] rfl)
                  · refine lv_sipush (v := (-1002)) hx hb dX5_crane_101 (by decide) ?_
                    exact w_reti hx hb hr hlocks hS (hP) (by unfold eCrane; rw [if_pos (show okCr x z r h sg no = true by unfold okCr; rw [c7, c17, c27, c39, c47, c58]; rfl), if_pos (show hasC d x z = true by rw [hasC, any_t (i := i) (by omega) (show hasP d x z i = true by unfold hasP; rw [decide_eq_true c87, decide_eq_true c98]; rfl)])]) dX5_crane_104
            · refine lv_sipush (v := (-1001)) hx hb dX5_crane_61 (by decide) ?_
              exact w_reti hx hb hr hlocks hS (hP) (by unfold eCrane; rw [if_neg (show ¬ okCr x z r h sg no = true from bf (by unfold okCr; first | (rw [c7]; rfl) | (rw [c17]; cases inB x (nI 0) (nI 15) <;> rfl) | (rw [c7, c17, c27]; rfl) | (rw [c7, c17, c27, c39]; rfl) | (rw [c7, c17, c27, c39, c47]; rfl) | (rw [c7, c17, c27, c39, c47, c58]; rfl)))]) dX5_crane_64
theorem i_c_X5_noise_ok_X5 : ∀ w ∈ wsX50, w ∈ wsX5_noise := fun w h => (List.mem_cons_of_mem _ (List.mem_append_right _ h))
set_option maxRecDepth 100000 in
set_option maxHeartbeats 4000000 in
theorem c_X5_noise_ok (l : Launch) (D : va_G) (y : zY) (m : Nat) (d : Nat → Int32) (was : Nat → Int32) (as : Nat → Int32) (tx : Nat → Int32) (gt : Nat → Int32) (k : Nat) (ty : Int32) (pa : Int32) (rs : Int32) (c : Nat) (v : Int32) (hI : zI d) (hk4 : k ≤ 4) (hc : c < nC d) (hv : inB v (nI 1) (nI 9) = true) : Met l yX5_noise wsX5_noise ({ frames := 5, cells := 0, slots := 0, locals := 115 }) (zP [.ref m, .int (nI c), .int v] (va_P D vwCl (mWs y m d was as tx gt (nI k) ty pa rs)) D y) (zW (some (.int (saC (upd d (4 + 6 * c + 5) v) 120))) (va_P D vwCl (mWs y m (saD (upd d (4 + 6 * c + 5) v) 120) (recW d was k) as tx gt (nI (recN k)) ty pa rs)) (blk m 6)) 0 0 (blk m 6) := by
  refine z_body (cc := cX5_noise) (maxL := 3) (ret := (some .int)) (la := [(0, .ref m), (1, .int (nI c)), (2, .int v)]) (by decide) rfl (Nat.le_of_ble_eq_true rfl) rfl ?_
  intro pg ev s mm below meth c0 ls hx hb hr hF hlocks hΦ hK hl _
  have hts := hF.2.2.2.2
  have hown : s.vm.findClass RX5 = some mm.cls := hF.2.2.2.1
  have hP : va_P D vwCl (mWs y m d was as tx gt (nI k) ty pa rs) s.heap := hΦ
  have hS : va_S (blk m 6) s.heap s.heap [] := va_S.rf
  have hG2 := hI.ng2
  have hC8 := hI.nc8
  have hrk := recN_le hk4
  refine lv_aload_n hx hb dX5_noise_0 rfl (lv_at hl 0 rfl) ?_
  refine lv_iload_n hx hb dX5_noise_1 rfl (lv_at hl 1 rfl) ?_
  refine z_callV (As := [.int (nI c)]) (rest := []) hF hK (c_X5_isCrane l D y m d (nI c) (hI)) (cwV 1 hts gX5_noise_X5_isCrane rfl rfl rfl (by decide +kernel) ⟨Nat.le_of_ble_eq_true rfl, Nat.le_of_ble_eq_true rfl⟩) (z_recv (q := (RX5, TX5, 9)) hK (hP 0 _ rfl) rfl) (zM_of hP) rfl hl.1 rfl (Nat.le_of_ble_eq_true rfl) dX5_noise_2 ⟨Nat.zero_le _, Nat.zero_le _⟩ ?_
  refine z_ifeq (tgt := 18) hx hb dX5_noise_5 (by decide) (fun c5 => ?_) (fun c5 => ?_)
  · first | exact absurd (inB_c hI hc) (bf c5) | exact absurd hv (bf c15)
  · refine lv_iload_n hx hb dX5_noise_8 rfl (lv_at hl 2 rfl) ?_
    refine lv_iconst (v := (nI 1)) hx hb dX5_noise_9 (by decide) ?_
    refine lv_bipush (v := (nI 9)) hx hb dX5_noise_10 (by decide) ?_
    refine z_callS (As := [.int v, .int (nI 1), .int (nI 9)]) (rest := []) hF hK (c_X5_in l D y v (nI 1) (nI 9) ) (va_cwS 3 hts gX5_noise_X5_in rfl rfl rfl (by decide +kernel) ⟨Nat.le_of_ble_eq_true rfl, Nat.le_of_ble_eq_true rfl⟩) trivial rfl hl.1 rfl (Nat.le_of_ble_eq_true rfl) dX5_noise_12 ⟨Nat.zero_le _, Nat.zero_le _⟩ ?_
    refine z_ifne (tgt := 22) hx hb dX5_noise_15 (by decide) (fun c15 => ?_) (fun c15 => ?_)
    · refine lv_aload_n hx hb dX5_noise_22 rfl (lv_at hl 0 rfl) ?_
      refine w_callV (As := []) (rest := []) hF hK (c_X5_records l D y m d was as tx gt k ty pa rs (by omega)) (cwV 0 hts gX5_noise_X5_records rfl rfl rfl (by decide +kernel) ⟨Nat.le_of_ble_eq_true rfl, Nat.le_of_ble_eq_true rfl⟩) (z_recv (q := (RX5, TX5, 9)) hK (hP 0 _ rfl) rfl) hP hS (fun q h => h) rfl hl.1 rfl (Nat.le_of_ble_eq_true rfl) dX5_noise_23 ⟨Nat.zero_le _, Nat.zero_le _⟩ (fun H1 locs1 hP hz hk hS => ?_)
      have hP : va_P D vwCl (mWs y m d (recW d was k) as tx gt (nI (recN k)) ty pa rs) H1 := hP
      clear hz hk
      refine lv_aload_n hx hb dX5_noise_26 rfl (lv_at hl 0 rfl) ?_
      refine z_get (fs := [.ref (m + 1), .ref (m + 2), .int (nI (recN k)), .ref (m + 3), .ref (m + 4), .int ty, .int pa, .int rs, .ref (m + 5)]) (ref := "CranePermitsModel") (C := RX5) (T := TX5) (N := 9) (ci := 5) (v := .ref (m + 1)) hx hb hts i_c_X5_noise_ok_X5 hown hK (hP 0 _ rfl) 0 (by decide) rfl (hts (.fieldLink RX5 7 "CranePermitsModel" "d" "[I") (List.mem_of_getElem? (i := 1) rfl)) rfl rfl dX5_noise_27 ?_
      refine lv_iconst (v := (nI 4)) hx hb dX5_noise_30 (by decide) ?_
      refine lv_bipush (v := (nI 6)) hx hb dX5_noise_31 (by decide) ?_
      refine lv_iload_n hx hb dX5_noise_33 rfl (lv_at hl 1 rfl) ?_
      refine z_imul hx hb dX5_noise_34 ?_
      refine z_iadd hx hb dX5_noise_35 ?_
      refine lv_iconst (v := (nI 5)) hx hb dX5_noise_36 (by decide) ?_
      refine z_iadd hx hb dX5_noise_37 ?_
      refine lv_iload_n hx hb dX5_noise_38 rfl (lv_at hl 2 rfl) ?_
      refine y_iast (a := (m + 1)) (f := d) (i := ((4 + (6 * c)) + 5)) hx hb hK (hP 1 _ rfl) (by omega) (by decide) dX5_noise_39 (fun H2 hU hV => ?_)
      have hS := hS.upd (x := ((4 + (6 * c)) + 5)) hU (blk_in (by omega) (by omega))
      have hP : va_P D vwCl (mWs y m (upd d ((4 + (6 * c)) + 5) v) (recW d was k) as tx gt (nI (recN k)) ty pa rs) H2 := hP.upd (q0 := 1) mWs_D rfl hU hV
      clear hU hV
      refine lv_aload_n hx hb dX5_noise_40 rfl (lv_at hl 0 rfl) ?_
      refine w_callV (As := []) (rest := []) hF hK (c_X5_savesAll l D y m (upd d ((4 + (6 * c)) + 5) v) (recW d was k) as tx gt (recN k) ty pa rs ((hI.noise c (by omega) v).1) (by omega)) (cwV 0 hts gX5_noise_X5_savesAll rfl rfl rfl (by decide +kernel) ⟨Nat.le_of_ble_eq_true rfl, Nat.le_of_ble_eq_true rfl⟩) (z_recv (q := (RX5, TX5, 9)) hK (hP 0 _ rfl) rfl) hP hS (fun q h => h) rfl hl.1 rfl (Nat.le_of_ble_eq_true rfl) dX5_noise_41 ⟨Nat.zero_le _, Nat.zero_le _⟩ (fun H3 locs1 hP hz hk hS => ?_)
      have hP : va_P D vwCl (mWs y m (saD (upd d ((4 + (6 * c)) + 5) v) 120) (recW d was k) as tx gt (nI (recN k)) ty pa rs) H3 := hP
      clear hz hk
      exact w_reti hx hb hr hlocks hS (hP) (rfl) dX5_noise_44
    · first | exact absurd (inB_c hI hc) (bf c5) | exact absurd hv (bf c15)
set_option maxRecDepth 100000 in
set_option maxHeartbeats 4000000 in
theorem c_X5_noise_no (l : Launch) (D : va_G) (y : zY) (m : Nat) (d : Nat → Int32) (was : Nat → Int32) (as : Nat → Int32) (tx : Nat → Int32) (gt : Nat → Int32) (k : Nat) (ty : Int32) (pa : Int32) (rs : Int32) (c : Int32) (v : Int32) (hI : zI d) (hk4 : k ≤ 4) (hno : ¬ (inB c (nI 0) (d 0 - nI 1) = true ∧ inB v (nI 1) (nI 9) = true)) : Met l yX5_noise wsX5_noise ({ frames := 2, cells := 0, slots := 0, locals := 43 }) (zP [.ref m, .int c, .int v] (va_P D vwCl (mWs y m d was as tx gt (nI k) ty pa rs)) D y) (zW (some (.int (-1001))) (va_P D vwCl (mWs y m d was as tx gt (nI k) ty pa rs)) (blk m 6)) 0 0 (blk m 6) := by
  refine z_body (cc := cX5_noise) (maxL := 3) (ret := (some .int)) (la := [(0, .ref m), (1, .int c), (2, .int v)]) (by decide) rfl (Nat.le_of_ble_eq_true rfl) rfl ?_
  intro pg ev s mm below meth c0 ls hx hb hr hF hlocks hΦ hK hl _
  have hts := hF.2.2.2.2
  have hown : s.vm.findClass RX5 = some mm.cls := hF.2.2.2.1
  have hP : va_P D vwCl (mWs y m d was as tx gt (nI k) ty pa rs) s.heap := hΦ
  have hS : va_S (blk m 6) s.heap s.heap [] := va_S.rf
  have hG2 := hI.ng2
  have hC8 := hI.nc8
  have hrk := recN_le hk4
  refine lv_aload_n hx hb dX5_noise_0 rfl (lv_at hl 0 rfl) ?_
  refine lv_iload_n hx hb dX5_noise_1 rfl (lv_at hl 1 rfl) ?_
  refine z_callV (As := [.int c]) (rest := []) hF hK (c_X5_isCrane l D y m d c (hI)) (cwV 1 hts gX5_noise_X5_isCrane rfl rfl rfl (by decide +kernel) ⟨Nat.le_of_ble_eq_true rfl, Nat.le_of_ble_eq_true rfl⟩) (z_recv (q := (RX5, TX5, 9)) hK (hP 0 _ rfl) rfl) (zM_of hP) rfl hl.1 rfl (Nat.le_of_ble_eq_true rfl) dX5_noise_2 ⟨Nat.zero_le _, Nat.zero_le _⟩ ?_
  refine z_ifeq (tgt := 18) hx hb dX5_noise_5 (by decide) (fun c5 => ?_) (fun c5 => ?_)
  · refine lv_sipush (v := (-1001)) hx hb dX5_noise_18 (by decide) ?_
    exact w_reti hx hb hr hlocks hS (hP) (rfl) dX5_noise_21
  · refine lv_iload_n hx hb dX5_noise_8 rfl (lv_at hl 2 rfl) ?_
    refine lv_iconst (v := (nI 1)) hx hb dX5_noise_9 (by decide) ?_
    refine lv_bipush (v := (nI 9)) hx hb dX5_noise_10 (by decide) ?_
    refine z_callS (As := [.int v, .int (nI 1), .int (nI 9)]) (rest := []) hF hK (c_X5_in l D y v (nI 1) (nI 9) ) (va_cwS 3 hts gX5_noise_X5_in rfl rfl rfl (by decide +kernel) ⟨Nat.le_of_ble_eq_true rfl, Nat.le_of_ble_eq_true rfl⟩) trivial rfl hl.1 rfl (Nat.le_of_ble_eq_true rfl) dX5_noise_12 ⟨Nat.zero_le _, Nat.zero_le _⟩ ?_
    refine z_ifne (tgt := 22) hx hb dX5_noise_15 (by decide) (fun c15 => ?_) (fun c15 => ?_)
    · exact absurd ⟨c5, c15⟩ hno
    · refine lv_sipush (v := (-1001)) hx hb dX5_noise_18 (by decide) ?_
      exact w_reti hx hb hr hlocks hS (hP) (rfl) dX5_noise_21
theorem i_c_X5_wind_ok_X5 : ∀ w ∈ wsX50, w ∈ wsX5_wind := fun w h => (List.mem_cons_of_mem _ (List.mem_append_right _ h))
set_option maxRecDepth 100000 in
set_option maxHeartbeats 4000000 in
theorem c_X5_wind_ok (l : Launch) (D : va_G) (y : zY) (m : Nat) (d : Nat → Int32) (was : Nat → Int32) (as : Nat → Int32) (tx : Nat → Int32) (gt : Nat → Int32) (k : Nat) (ty : Int32) (pa : Int32) (rs : Int32) (n : Nat) (v : Int32) (hI : zI d) (hk4 : k ≤ 4) (hn : n < 30) (hv : inB v (nI 0) (nI 99) = true) : Met l yX5_wind wsX5_wind ({ frames := 3, cells := 0, slots := 0, locals := 67 }) (zP [.ref m, .int (nI n), .int v] (va_P D vwCl (mWs y m d was as tx gt (nI k) ty pa rs)) D y) (zW (some (.int (calR (upd d (52 + n) v) n))) (va_P D vwCl (mWs y m (calD (upd d (52 + n) v) n) (recW d was k) as tx gt (nI (recN k)) ty pa rs)) (blk m 6)) 0 0 (blk m 6) := by
  refine z_body (cc := cX5_wind) (maxL := 3) (ret := (some .int)) (la := [(0, .ref m), (1, .int (nI n)), (2, .int v)]) (by decide) rfl (Nat.le_of_ble_eq_true rfl) rfl ?_
  intro pg ev s mm below meth c0 ls hx hb hr hF hlocks hΦ hK hl _
  have hts := hF.2.2.2.2
  have hown : s.vm.findClass RX5 = some mm.cls := hF.2.2.2.1
  have hP : va_P D vwCl (mWs y m d was as tx gt (nI k) ty pa rs) s.heap := hΦ
  have hS : va_S (blk m 6) s.heap s.heap [] := va_S.rf
  have hG2 := hI.ng2
  have hC8 := hI.nc8
  have hrk := recN_le hk4
  refine lv_iload_n hx hb dX5_wind_0 rfl (lv_at hl 1 rfl) ?_
  refine z_callS (As := [.int (nI n)]) (rest := []) hF hK (c_X5_isNight l D y (nI n) ) (va_cwS 1 hts gX5_wind_X5_isNight rfl rfl rfl (by decide +kernel) ⟨Nat.le_of_ble_eq_true rfl, Nat.le_of_ble_eq_true rfl⟩) trivial rfl hl.1 rfl (Nat.le_of_ble_eq_true rfl) dX5_wind_1 ⟨Nat.zero_le _, Nat.zero_le _⟩ ?_
  refine z_ifeq (tgt := 17) hx hb dX5_wind_4 (by decide) (fun c4 => ?_) (fun c4 => ?_)
  · first | exact absurd (inB_of (lo := 0) (hi := 29) (Nat.zero_le n) (by omega) (by decide)) (bf c4) | exact absurd hv (bf c14)
  · refine lv_iload_n hx hb dX5_wind_7 rfl (lv_at hl 2 rfl) ?_
    refine lv_iconst (v := (nI 0)) hx hb dX5_wind_8 (by decide) ?_
    refine lv_bipush (v := (nI 99)) hx hb dX5_wind_9 (by decide) ?_
    refine z_callS (As := [.int v, .int (nI 0), .int (nI 99)]) (rest := []) hF hK (c_X5_in l D y v (nI 0) (nI 99) ) (va_cwS 3 hts gX5_wind_X5_in rfl rfl rfl (by decide +kernel) ⟨Nat.le_of_ble_eq_true rfl, Nat.le_of_ble_eq_true rfl⟩) trivial rfl hl.1 rfl (Nat.le_of_ble_eq_true rfl) dX5_wind_11 ⟨Nat.zero_le _, Nat.zero_le _⟩ ?_
    refine z_ifne (tgt := 21) hx hb dX5_wind_14 (by decide) (fun c14 => ?_) (fun c14 => ?_)
    · refine lv_aload_n hx hb dX5_wind_21 rfl (lv_at hl 0 rfl) ?_
      refine w_callV (As := []) (rest := []) hF hK (c_X5_records l D y m d was as tx gt k ty pa rs (by omega)) (cwV 0 hts gX5_wind_X5_records rfl rfl rfl (by decide +kernel) ⟨Nat.le_of_ble_eq_true rfl, Nat.le_of_ble_eq_true rfl⟩) (z_recv (q := (RX5, TX5, 9)) hK (hP 0 _ rfl) rfl) hP hS (fun q h => h) rfl hl.1 rfl (Nat.le_of_ble_eq_true rfl) dX5_wind_22 ⟨Nat.zero_le _, Nat.zero_le _⟩ (fun H1 locs1 hP hz hk hS => ?_)
      have hP : va_P D vwCl (mWs y m d (recW d was k) as tx gt (nI (recN k)) ty pa rs) H1 := hP
      clear hz hk
      refine lv_aload_n hx hb dX5_wind_25 rfl (lv_at hl 0 rfl) ?_
      refine z_get (fs := [.ref (m + 1), .ref (m + 2), .int (nI (recN k)), .ref (m + 3), .ref (m + 4), .int ty, .int pa, .int rs, .ref (m + 5)]) (ref := "CranePermitsModel") (C := RX5) (T := TX5) (N := 9) (ci := 5) (v := .ref (m + 1)) hx hb hts i_c_X5_wind_ok_X5 hown hK (hP 0 _ rfl) 0 (by decide) rfl (hts (.fieldLink RX5 7 "CranePermitsModel" "d" "[I") (List.mem_of_getElem? (i := 1) rfl)) rfl rfl dX5_wind_26 ?_
      refine lv_bipush (v := (nI 52)) hx hb dX5_wind_29 (by decide) ?_
      refine lv_iload_n hx hb dX5_wind_31 rfl (lv_at hl 1 rfl) ?_
      refine z_iadd hx hb dX5_wind_32 ?_
      refine lv_iload_n hx hb dX5_wind_33 rfl (lv_at hl 2 rfl) ?_
      refine y_iast (a := (m + 1)) (f := d) (i := (52 + n)) hx hb hK (hP 1 _ rfl) (by omega) (by decide) dX5_wind_34 (fun H2 hU hV => ?_)
      have hS := hS.upd (x := (52 + n)) hU (blk_in (by omega) (by omega))
      have hP : va_P D vwCl (mWs y m (upd d (52 + n) v) (recW d was k) as tx gt (nI (recN k)) ty pa rs) H2 := hP.upd (q0 := 1) mWs_D rfl hU hV
      clear hU hV
      refine lv_aload_n hx hb dX5_wind_35 rfl (lv_at hl 0 rfl) ?_
      refine lv_iload_n hx hb dX5_wind_36 rfl (lv_at hl 1 rfl) ?_
      refine w_callV (As := [.int (nI n)]) (rest := []) hF hK (c_X5_calms l D y m (upd d (52 + n) v) (recW d was k) as tx gt (recN k) ty pa rs n ((hI.low (52 + n) (by omega) v).1) (by omega) (by omega)) (cwV 1 hts gX5_wind_X5_calms rfl rfl rfl (by decide +kernel) ⟨Nat.le_of_ble_eq_true rfl, Nat.le_of_ble_eq_true rfl⟩) (z_recv (q := (RX5, TX5, 9)) hK (hP 0 _ rfl) rfl) hP hS (fun q h => h) rfl hl.1 rfl (Nat.le_of_ble_eq_true rfl) dX5_wind_37 ⟨Nat.zero_le _, Nat.zero_le _⟩ (fun H3 locs1 hP hz hk hS => ?_)
      have hP : va_P D vwCl (mWs y m (calD (upd d (52 + n) v) n) (recW d was k) as tx gt (nI (recN k)) ty pa rs) H3 := hP
      clear hz hk
      exact w_reti hx hb hr hlocks hS (hP) (rfl) dX5_wind_40
    · first | exact absurd (inB_of (lo := 0) (hi := 29) (Nat.zero_le n) (by omega) (by decide)) (bf c4) | exact absurd hv (bf c14)
set_option maxRecDepth 100000 in
set_option maxHeartbeats 4000000 in
theorem c_X5_wind_no (l : Launch) (D : va_G) (y : zY) (m : Nat) (d : Nat → Int32) (was : Nat → Int32) (as : Nat → Int32) (tx : Nat → Int32) (gt : Nat → Int32) (k : Nat) (ty : Int32) (pa : Int32) (rs : Int32) (n : Int32) (v : Int32) (hI : zI d) (hk4 : k ≤ 4) (hno : ¬ (inB n (nI 0) (nI 29) = true ∧ inB v (nI 0) (nI 99) = true)) : Met l yX5_wind wsX5_wind ({ frames := 2, cells := 0, slots := 0, locals := 42 }) (zP [.ref m, .int n, .int v] (va_P D vwCl (mWs y m d was as tx gt (nI k) ty pa rs)) D y) (zW (some (.int (-1001))) (va_P D vwCl (mWs y m d was as tx gt (nI k) ty pa rs)) (blk m 6)) 0 0 (blk m 6) := by
  refine z_body (cc := cX5_wind) (maxL := 3) (ret := (some .int)) (la := [(0, .ref m), (1, .int n), (2, .int v)]) (by decide) rfl (Nat.le_of_ble_eq_true rfl) rfl ?_
  intro pg ev s mm below meth c0 ls hx hb hr hF hlocks hΦ hK hl _
  have hts := hF.2.2.2.2
  have hown : s.vm.findClass RX5 = some mm.cls := hF.2.2.2.1
  have hP : va_P D vwCl (mWs y m d was as tx gt (nI k) ty pa rs) s.heap := hΦ
  have hS : va_S (blk m 6) s.heap s.heap [] := va_S.rf
  have hG2 := hI.ng2
  have hC8 := hI.nc8
  have hrk := recN_le hk4
  refine lv_iload_n hx hb dX5_wind_0 rfl (lv_at hl 1 rfl) ?_
  refine z_callS (As := [.int n]) (rest := []) hF hK (c_X5_isNight l D y n ) (va_cwS 1 hts gX5_wind_X5_isNight rfl rfl rfl (by decide +kernel) ⟨Nat.le_of_ble_eq_true rfl, Nat.le_of_ble_eq_true rfl⟩) trivial rfl hl.1 rfl (Nat.le_of_ble_eq_true rfl) dX5_wind_1 ⟨Nat.zero_le _, Nat.zero_le _⟩ ?_
  refine z_ifeq (tgt := 17) hx hb dX5_wind_4 (by decide) (fun c4 => ?_) (fun c4 => ?_)
  · refine lv_sipush (v := (-1001)) hx hb dX5_wind_17 (by decide) ?_
    exact w_reti hx hb hr hlocks hS (hP) (rfl) dX5_wind_20
  · refine lv_iload_n hx hb dX5_wind_7 rfl (lv_at hl 2 rfl) ?_
    refine lv_iconst (v := (nI 0)) hx hb dX5_wind_8 (by decide) ?_
    refine lv_bipush (v := (nI 99)) hx hb dX5_wind_9 (by decide) ?_
    refine z_callS (As := [.int v, .int (nI 0), .int (nI 99)]) (rest := []) hF hK (c_X5_in l D y v (nI 0) (nI 99) ) (va_cwS 3 hts gX5_wind_X5_in rfl rfl rfl (by decide +kernel) ⟨Nat.le_of_ble_eq_true rfl, Nat.le_of_ble_eq_true rfl⟩) trivial rfl hl.1 rfl (Nat.le_of_ble_eq_true rfl) dX5_wind_11 ⟨Nat.zero_le _, Nat.zero_le _⟩ ?_
    refine z_ifne (tgt := 21) hx hb dX5_wind_14 (by decide) (fun c14 => ?_) (fun c14 => ?_)
    · exact absurd ⟨c4, c14⟩ hno
    · refine lv_sipush (v := (-1001)) hx hb dX5_wind_17 (by decide) ?_
      exact w_reti hx hb hr hlocks hS (hP) (rfl) dX5_wind_20
theorem i_c_X5_allow_ok_X5 : ∀ w ∈ wsX50, w ∈ wsX5_allow := fun w h => (List.mem_cons_of_mem _ (List.mem_append_right _ h))
set_option maxRecDepth 100000 in
set_option maxHeartbeats 4000000 in
theorem c_X5_allow_ok (l : Launch) (D : va_G) (y : zY) (m : Nat) (d : Nat → Int32) (was : Nat → Int32) (as : Nat → Int32) (tx : Nat → Int32) (gt : Nat → Int32) (k : Nat) (ty : Int32) (pa : Int32) (rs : Int32) (a : Nat) (n : Nat) (v : Int32) (hI : zI d) (hk4 : k ≤ 4) (ha : a < 4) (hn : n < 30) (hv : inB v (nI 0) (nI 200) = true) : Met l yX5_allow wsX5_allow ({ frames := 4, cells := 0, slots := 0, locals := 93 }) (zP [.ref m, .int (nI a), .int (nI n), .int v] (va_P D vwCl (mWs y m d was as tx gt (nI k) ty pa rs)) D y) (zW (some (.int (savR (upd d (82 + (30 * a + n)) v) a n))) (va_P D vwCl (mWs y m (savD (upd d (82 + (30 * a + n)) v) a n) (recW d was k) as tx gt (nI (recN k)) ty pa rs)) (blk m 6)) 0 0 (blk m 6) := by
  refine z_body (cc := cX5_allow) (maxL := 4) (ret := (some .int)) (la := [(0, .ref m), (1, .int (nI a)), (2, .int (nI n)), (3, .int v)]) (by decide) rfl (Nat.le_of_ble_eq_true rfl) rfl ?_
  intro pg ev s mm below meth c0 ls hx hb hr hF hlocks hΦ hK hl _
  have hts := hF.2.2.2.2
  have hown : s.vm.findClass RX5 = some mm.cls := hF.2.2.2.1
  have hP : va_P D vwCl (mWs y m d was as tx gt (nI k) ty pa rs) s.heap := hΦ
  have hS : va_S (blk m 6) s.heap s.heap [] := va_S.rf
  have hG2 := hI.ng2
  have hC8 := hI.nc8
  have hrk := recN_le hk4
  refine lv_iload_n hx hb dX5_allow_0 rfl (lv_at hl 1 rfl) ?_
  refine z_callS (As := [.int (nI a)]) (rest := []) hF hK (c_X5_isStreet l D y (nI a) ) (va_cwS 1 hts gX5_allow_X5_isStreet rfl rfl rfl (by decide +kernel) ⟨Nat.le_of_ble_eq_true rfl, Nat.le_of_ble_eq_true rfl⟩) trivial rfl hl.1 rfl (Nat.le_of_ble_eq_true rfl) dX5_allow_1 ⟨Nat.zero_le _, Nat.zero_le _⟩ ?_
  refine z_ifeq (tgt := 25) hx hb dX5_allow_4 (by decide) (fun c4 => ?_) (fun c4 => ?_)
  · first | exact absurd (inB_of (lo := 0) (hi := 3) (Nat.zero_le a) (by omega) (by decide)) (bf c4) | exact absurd (inB_of (lo := 0) (hi := 29) (Nat.zero_le n) (by omega) (by decide)) (bf c11) | exact absurd hv (bf c22)
  · refine lv_iload_n hx hb dX5_allow_7 rfl (lv_at hl 2 rfl) ?_
    refine z_callS (As := [.int (nI n)]) (rest := []) hF hK (c_X5_isNight l D y (nI n) ) (va_cwS 1 hts gX5_allow_X5_isNight rfl rfl rfl (by decide +kernel) ⟨Nat.le_of_ble_eq_true rfl, Nat.le_of_ble_eq_true rfl⟩) trivial rfl hl.1 rfl (Nat.le_of_ble_eq_true rfl) dX5_allow_8 ⟨Nat.zero_le _, Nat.zero_le _⟩ ?_
    refine z_ifeq (tgt := 25) hx hb dX5_allow_11 (by decide) (fun c11 => ?_) (fun c11 => ?_)
    · first | exact absurd (inB_of (lo := 0) (hi := 3) (Nat.zero_le a) (by omega) (by decide)) (bf c4) | exact absurd (inB_of (lo := 0) (hi := 29) (Nat.zero_le n) (by omega) (by decide)) (bf c11) | exact absurd hv (bf c22)
    · refine lv_iload_n hx hb dX5_allow_14 rfl (lv_at hl 3 rfl) ?_
      refine lv_iconst (v := (nI 0)) hx hb dX5_allow_15 (by decide) ?_
      refine lv_sipush (v := (nI 200)) hx hb dX5_allow_16 (by decide) ?_
      refine z_callS (As := [.int v, .int (nI 0), .int (nI 200)]) (rest := []) hF hK (c_X5_in l D y v (nI 0) (nI 200) ) (va_cwS 3 hts gX5_allow_X5_in rfl rfl rfl (by decide +kernel) ⟨Nat.le_of_ble_eq_true rfl, Nat.le_of_ble_eq_true rfl⟩) trivial rfl hl.1 rfl (Nat.le_of_ble_eq_true rfl) dX5_allow_19 ⟨Nat.zero_le _, Nat.zero_le _⟩ ?_
      refine z_ifne (tgt := 29) hx hb dX5_allow_22 (by decide) (fun c22 => ?_) (fun c22 => ?_)
      · refine lv_aload_n hx hb dX5_allow_29 rfl (lv_at hl 0 rfl) ?_
        refine w_callV (As := []) (rest := []) hF hK (c_X5_records l D y m d was as tx gt k ty pa rs (by omega)) (cwV 0 hts gX5_allow_X5_records rfl rfl rfl (by decide +kernel) ⟨Nat.le_of_ble_eq_true rfl, Nat.le_of_ble_eq_true rfl⟩) (z_recv (q := (RX5, TX5, 9)) hK (hP 0 _ rfl) rfl) hP hS (fun q h => h) rfl hl.1 rfl (Nat.le_of_ble_eq_true rfl) dX5_allow_30 ⟨Nat.zero_le _, Nat.zero_le _⟩ (fun H1 locs1 hP hz hk hS => ?_)
        have hP : va_P D vwCl (mWs y m d (recW d was k) as tx gt (nI (recN k)) ty pa rs) H1 := hP
        clear hz hk
        refine lv_aload_n hx hb dX5_allow_33 rfl (lv_at hl 0 rfl) ?_
        refine z_get (fs := [.ref (m + 1), .ref (m + 2), .int (nI (recN k)), .ref (m + 3), .ref (m + 4), .int ty, .int pa, .int rs, .ref (m + 5)]) (ref := "CranePermitsModel") (C := RX5) (T := TX5) (N := 9) (ci := 5) (v := .ref (m + 1)) hx hb hts i_c_X5_allow_ok_X5 hown hK (hP 0 _ rfl) 0 (by decide) rfl (hts (.fieldLink RX5 7 "CranePermitsModel" "d" "[I") (List.mem_of_getElem? (i := 1) rfl)) rfl rfl dX5_allow_34 ?_
        refine lv_bipush (v := (nI 82)) hx hb dX5_allow_37 (by decide) ?_
        refine lv_iload_n hx hb dX5_allow_39 rfl (lv_at hl 1 rfl) ?_
        refine lv_iload_n hx hb dX5_allow_40 rfl (lv_at hl 2 rfl) ?_
        refine z_callS (As := [.int (nI a), .int (nI n)]) (rest := [.int (nI 82), .ref (m + 1)]) hF hK (c_X5_spot l D y a n ) (va_cwS 2 hts gX5_allow_X5_spot rfl rfl rfl (by decide +kernel) ⟨Nat.le_of_ble_eq_true rfl, Nat.le_of_ble_eq_true rfl⟩) trivial rfl hl.1 rfl (Nat.le_of_ble_eq_true rfl) dX5_allow_41 ⟨Nat.zero_le _, Nat.zero_le _⟩ ?_
        refine z_iadd hx hb dX5_allow_44 ?_
        refine lv_iload_n hx hb dX5_allow_45 rfl (lv_at hl 3 rfl) ?_
        refine y_iast (a := (m + 1)) (f := d) (i := (82 + (30 * a + n))) hx hb hK (hP 1 _ rfl) (by omega) (by decide) dX5_allow_46 (fun H2 hU hV => ?_)
        have hS := hS.upd (x := (82 + (30 * a + n))) hU (blk_in (by omega) (by omega))
        have hP : va_P D vwCl (mWs y m (upd d (82 + (30 * a + n)) v) (recW d was k) as tx gt (nI (recN k)) ty pa rs) H2 := hP.upd (q0 := 1) mWs_D rfl hU hV
        clear hU hV
        refine lv_aload_n hx hb dX5_allow_47 rfl (lv_at hl 0 rfl) ?_
        refine lv_iload_n hx hb dX5_allow_48 rfl (lv_at hl 1 rfl) ?_
        refine lv_iload_n hx hb dX5_allow_49 rfl (lv_at hl 2 rfl) ?_
        refine w_callV (As := [.int (nI a), .int (nI n)]) (rest := []) hF hK (c_X5_saves l D y m (upd d (82 + (30 * a + n)) v) (recW d was k) as tx gt (recN k) ty pa rs a n ((hI.low (82 + (30 * a + n)) (by omega) v).1) (by omega) (by omega) (by omega)) (cwV 2 hts gX5_allow_X5_saves rfl rfl rfl (by decide +kernel) ⟨Nat.le_of_ble_eq_true rfl, Nat.le_of_ble_eq_true rfl⟩) (z_recv (q := (RX5, TX5, 9)) hK (hP 0 _ rfl) rfl) hP hS (fun q h => h) rfl hl.1 rfl (Nat.le_of_ble_eq_true rfl) dX5_allow_50 ⟨Nat.zero_le _, Nat.zero_le _⟩ (fun H3 locs1 hP hz hk hS => ?_)
        have hP : va_P D vwCl (mWs y m (savD (upd d (82 + (30 * a + n)) v) a n) (recW d was k) as tx gt (nI (recN k)) ty pa rs) H3 := hP
        clear hz hk
        exact w_reti hx hb hr hlocks hS (hP) (rfl) dX5_allow_53
      · first | exact absurd (inB_of (lo := 0) (hi := 3) (Nat.zero_le a) (by omega) (by decide)) (bf c4) | exact absurd (inB_of (lo := 0) (hi := 29) (Nat.zero_le n) (by omega) (by decide)) (bf c11) | exact absurd hv (bf c22)
set_option maxRecDepth 100000 in
set_option maxHeartbeats 4000000 in
theorem c_X5_allow_no (l : Launch) (D : va_G) (y : zY) (m : Nat) (d : Nat → Int32) (was : Nat → Int32) (as : Nat → Int32) (tx : Nat → Int32) (gt : Nat → Int32) (k : Nat) (ty : Int32) (pa : Int32) (rs : Int32) (a : Int32) (n : Int32) (v : Int32) (hI : zI d) (hk4 : k ≤ 4) (hno : ¬ (inB a (nI 0) (nI 3) = true ∧ inB n (nI 0) (nI 29) = true ∧ inB v (nI 0) (nI 200) = true)) : Met l yX5_allow wsX5_allow ({ frames := 2, cells := 0, slots := 0, locals := 42 }) (zP [.ref m, .int a, .int n, .int v] (va_P D vwCl (mWs y m d was as tx gt (nI k) ty pa rs)) D y) (zW (some (.int (-1001))) (va_P D vwCl (mWs y m d was as tx gt (nI k) ty pa rs)) (blk m 6)) 0 0 (blk m 6) := by
  refine z_body (cc := cX5_allow) (maxL := 4) (ret := (some .int)) (la := [(0, .ref m), (1, .int a), (2, .int n), (3, .int v)]) (by decide) rfl (Nat.le_of_ble_eq_true rfl) rfl ?_
  intro pg ev s mm below meth c0 ls hx hb hr hF hlocks hΦ hK hl _
  have hts := hF.2.2.2.2
  have hown : s.vm.findClass RX5 = some mm.cls := hF.2.2.2.1
  have hP : va_P D vwCl (mWs y m d was as tx gt (nI k) ty pa rs) s.heap := hΦ
  have hS : va_S (blk m 6) s.heap s.heap [] := va_S.rf
  have hG2 := hI.ng2
  have hC8 := hI.nc8
  have hrk := recN_le hk4
  refine lv_iload_n hx hb dX5_allow_0 rfl (lv_at hl 1 rfl) ?_
  refine z_callS (As := [.int a]) (rest := []) hF hK (c_X5_isStreet l D y a ) (va_cwS 1 hts gX5_allow_X5_isStreet rfl rfl rfl (by decide +kernel) ⟨Nat.le_of_ble_eq_true rfl, Nat.le_of_ble_eq_true rfl⟩) trivial rfl hl.1 rfl (Nat.le_of_ble_eq_true rfl) dX5_allow_1 ⟨Nat.zero_le _, Nat.zero_le _⟩ ?_
  refine z_ifeq (tgt := 25) hx hb dX5_allow_4 (by decide) (fun c4 => ?_) (fun c4 => ?_)
  · refine lv_sipush (v := (-1001)) hx hb dX5_allow_25 (by decide) ?_
    exact w_reti hx hb hr hlocks hS (hP) (rfl) dX5_allow_28
  · refine lv_iload_n hx hb dX5_allow_7 rfl (lv_at hl 2 rfl) ?_
    refine z_callS (As := [.int n]) (rest := []) hF hK (c_X5_isNight l D y n ) (va_cwS 1 hts gX5_allow_X5_isNight rfl rfl rfl (by decide +kernel) ⟨Nat.le_of_ble_eq_true rfl, Nat.le_of_ble_eq_true rfl⟩) trivial rfl hl.1 rfl (Nat.le_of_ble_eq_true rfl) dX5_allow_8 ⟨Nat.zero_le _, Nat.zero_le _⟩ ?_
    refine z_ifeq (tgt := 25) hx hb dX5_allow_11 (by decide) (fun c11 => ?_) (fun c11 => ?_)
    · refine lv_sipush (v := (-1001)) hx hb dX5_allow_25 (by decide) ?_
      exact w_reti hx hb hr hlocks hS (hP) (rfl) dX5_allow_28
    · refine lv_iload_n hx hb dX5_allow_14 rfl (lv_at hl 3 rfl) ?_
      refine lv_iconst (v := (nI 0)) hx hb dX5_allow_15 (by decide) ?_
      refine lv_sipush (v := (nI 200)) hx hb dX5_allow_16 (by decide) ?_
      refine z_callS (As := [.int v, .int (nI 0), .int (nI 200)]) (rest := []) hF hK (c_X5_in l D y v (nI 0) (nI 200) ) (va_cwS 3 hts gX5_allow_X5_in rfl rfl rfl (by decide +kernel) ⟨Nat.le_of_ble_eq_true rfl, Nat.le_of_ble_eq_true rfl⟩) trivial rfl hl.1 rfl (Nat.le_of_ble_eq_true rfl) dX5_allow_19 ⟨Nat.zero_le _, Nat.zero_le _⟩ ?_
      refine z_ifne (tgt := 29) hx hb dX5_allow_22 (by decide) (fun c22 => ?_) (fun c22 => ?_)
      · exact absurd ⟨c4, c11, c22⟩ hno
      · refine lv_sipush (v := (-1001)) hx hb dX5_allow_25 (by decide) ?_
        exact w_reti hx hb hr hlocks hS (hP) (rfl) dX5_allow_28
theorem i_c_X5_transfer_ok_X5 : ∀ w ∈ wsX50, w ∈ wsX5_transfer := fun w h => (List.mem_cons_of_mem _ (List.mem_append_right _ h))
set_option maxRecDepth 100000 in
set_option maxHeartbeats 4000000 in
theorem c_X5_transfer_ok (l : Launch) (D : va_G) (y : zY) (m : Nat) (d : Nat → Int32) (was : Nat → Int32) (as : Nat → Int32) (tx : Nat → Int32) (gt : Nat → Int32) (k : Nat) (ty : Int32) (pa : Int32) (rs : Int32) (a : Nat) (b : Nat) (n : Nat) (c : Int32) (hI : zI d) (hk4 : k ≤ 4) (ha : a < 4) (hb4 : b < 4) (hab : a ≠ b) (hn : n < 30) (hc : inB c (nI 1) (nI 200) = true) (hf : c ≤ freI d a n) : Met l yX5_transfer wsX5_transfer ({ frames := 3, cells := 0, slots := 0, locals := 69 }) (zP [.ref m, .int (nI a), .int (nI b), .int (nI n), .int c] (va_P D vwCl (mWs y m d was as tx gt (nI k) ty pa rs)) D y) (zW (some (.int (freI d a n - c))) (va_P D vwCl (mWs y m (traD d a b n c) (recW d was k) as tx gt (nI (recN k)) ty pa rs)) (blk m 6)) 0 0 (blk m 6) := by
  refine z_body (cc := cX5_transfer) (maxL := 6) (ret := (some .int)) (la := [(0, .ref m), (1, .int (nI a)), (2, .int (nI b)), (3, .int (nI n)), (4, .int c)]) (by decide) rfl (Nat.le_of_ble_eq_true rfl) rfl ?_
  intro pg ev s mm below meth c0 ls hx hb hr hF hlocks hΦ hK hl _
  have hts := hF.2.2.2.2
  have hown : s.vm.findClass RX5 = some mm.cls := hF.2.2.2.1
  have hP : va_P D vwCl (mWs y m d was as tx gt (nI k) ty pa rs) s.heap := hΦ
  have hS : va_S (blk m 6) s.heap s.heap [] := va_S.rf
  have hG2 := hI.ng2
  have hC8 := hI.nc8
  have hrk := recN_le hk4
  refine lv_iload_n hx hb dX5_transfer_0 rfl (lv_at hl 1 rfl) ?_
  refine z_callS (As := [.int (nI a)]) (rest := []) hF hK (c_X5_isStreet l D y (nI a) ) (va_cwS 1 hts gX5_transfer_X5_isStreet rfl rfl rfl (by decide +kernel) ⟨Nat.le_of_ble_eq_true rfl, Nat.le_of_ble_eq_true rfl⟩) trivial rfl hl.1 rfl (Nat.le_of_ble_eq_true rfl) dX5_transfer_1 ⟨Nat.zero_le _, Nat.zero_le _⟩ ?_
  refine z_ifeq (tgt := 38) hx hb dX5_transfer_4 (by decide) (fun c4 => ?_) (fun c4 => ?_)
  · first | exact absurd (inB_of (lo := 0) (hi := 3) (Nat.zero_le a) (by omega) (by decide)) (bf c4) | exact absurd (inB_of (lo := 0) (hi := 3) (Nat.zero_le b) (by omega) (by decide)) (bf c11) | exact absurd c16 hab | exact absurd (inB_of (lo := 0) (hi := 29) (Nat.zero_le n) (by omega) (by decide)) (bf c23) | exact absurd hc (bf c35)
  · refine lv_iload_n hx hb dX5_transfer_7 rfl (lv_at hl 2 rfl) ?_
    refine z_callS (As := [.int (nI b)]) (rest := []) hF hK (c_X5_isStreet l D y (nI b) ) (va_cwS 1 hts gX5_transfer_X5_isStreet rfl rfl rfl (by decide +kernel) ⟨Nat.le_of_ble_eq_true rfl, Nat.le_of_ble_eq_true rfl⟩) trivial rfl hl.1 rfl (Nat.le_of_ble_eq_true rfl) dX5_transfer_8 ⟨Nat.zero_le _, Nat.zero_le _⟩ ?_
    refine z_ifeq (tgt := 38) hx hb dX5_transfer_11 (by decide) (fun c11 => ?_) (fun c11 => ?_)
    · first | exact absurd (inB_of (lo := 0) (hi := 3) (Nat.zero_le a) (by omega) (by decide)) (bf c4) | exact absurd (inB_of (lo := 0) (hi := 3) (Nat.zero_le b) (by omega) (by decide)) (bf c11) | exact absurd c16 hab | exact absurd (inB_of (lo := 0) (hi := 29) (Nat.zero_le n) (by omega) (by decide)) (bf c23) | exact absurd hc (bf c35)
    · refine lv_iload_n hx hb dX5_transfer_14 rfl (lv_at hl 1 rfl) ?_
      refine lv_iload_n hx hb dX5_transfer_15 rfl (lv_at hl 2 rfl) ?_
      refine z_eq (tgt := 38) hx hb (by omega) (by omega) dX5_transfer_16 (by decide) (fun c16 => ?_) (fun c16 => ?_)
      · first | exact absurd (inB_of (lo := 0) (hi := 3) (Nat.zero_le a) (by omega) (by decide)) (bf c4) | exact absurd (inB_of (lo := 0) (hi := 3) (Nat.zero_le b) (by omega) (by decide)) (bf c11) | exact absurd c16 hab | exact absurd (inB_of (lo := 0) (hi := 29) (Nat.zero_le n) (by omega) (by decide)) (bf c23) | exact absurd hc (bf c35)
      · refine lv_iload_n hx hb dX5_transfer_19 rfl (lv_at hl 3 rfl) ?_
        refine z_callS (As := [.int (nI n)]) (rest := []) hF hK (c_X5_isNight l D y (nI n) ) (va_cwS 1 hts gX5_transfer_X5_isNight rfl rfl rfl (by decide +kernel) ⟨Nat.le_of_ble_eq_true rfl, Nat.le_of_ble_eq_true rfl⟩) trivial rfl hl.1 rfl (Nat.le_of_ble_eq_true rfl) dX5_transfer_20 ⟨Nat.zero_le _, Nat.zero_le _⟩ ?_
        refine z_ifeq (tgt := 38) hx hb dX5_transfer_23 (by decide) (fun c23 => ?_) (fun c23 => ?_)
        · first | exact absurd (inB_of (lo := 0) (hi := 3) (Nat.zero_le a) (by omega) (by decide)) (bf c4) | exact absurd (inB_of (lo := 0) (hi := 3) (Nat.zero_le b) (by omega) (by decide)) (bf c11) | exact absurd c16 hab | exact absurd (inB_of (lo := 0) (hi := 29) (Nat.zero_le n) (by omega) (by decide)) (bf c23) | exact absurd hc (bf c35)
        · refine lv_iload hx hb dX5_transfer_26 (lv_at hl 4 rfl) ?_
          refine lv_iconst (v := (nI 1)) hx hb dX5_transfer_28 (by decide) ?_
          refine lv_sipush (v := (nI 200)) hx hb dX5_transfer_29 (by decide) ?_
          refine z_callS (As := [.int c, .int (nI 1), .int (nI 200)]) (rest := []) hF hK (c_X5_in l D y c (nI 1) (nI 200) ) (va_cwS 3 hts gX5_transfer_X5_in rfl rfl rfl (by decide +kernel) ⟨Nat.le_of_ble_eq_true rfl, Nat.le_of_ble_eq_true rfl⟩) trivial rfl hl.1 rfl (Nat.le_of_ble_eq_true rfl) dX5_transfer_32 ⟨Nat.zero_le _, Nat.zero_le _⟩ ?_
          refine z_ifne (tgt := 42) hx hb dX5_transfer_35 (by decide) (fun c35 => ?_) (fun c35 => ?_)
          · refine lv_aload_n hx hb dX5_transfer_42 rfl (lv_at hl 0 rfl) ?_
            refine lv_iload_n hx hb dX5_transfer_43 rfl (lv_at hl 1 rfl) ?_
            refine lv_iload_n hx hb dX5_transfer_44 rfl (lv_at hl 3 rfl) ?_
            refine z_callV (As := [.int (nI a), .int (nI n)]) (rest := []) hF hK (c_X5_credits l D y m d a n (by omega) (by omega)) (cwV 2 hts gX5_transfer_X5_credits rfl rfl rfl (by decide +kernel) ⟨Nat.le_of_ble_eq_true rfl, Nat.le_of_ble_eq_true rfl⟩) (z_recv (q := (RX5, TX5, 9)) hK (hP 0 _ rfl) rfl) (zM_of hP) rfl hl.1 rfl (Nat.le_of_ble_eq_true rfl) dX5_transfer_45 ⟨Nat.zero_le _, Nat.zero_le _⟩ ?_
            refine lv_aload_n hx hb dX5_transfer_48 rfl (lv_at hl 0 rfl) ?_
            refine lv_iload_n hx hb dX5_transfer_49 rfl (lv_at hl 1 rfl) ?_
            refine lv_iload_n hx hb dX5_transfer_50 rfl (lv_at hl 3 rfl) ?_
            refine z_callV (As := [.int (nI a), .int (nI n)]) (rest := [.int (creI d a n)]) hF hK (c_X5_used l D y m d (nI a) (nI n) (hI)) (cwV 2 hts gX5_transfer_X5_used rfl rfl rfl (by decide +kernel) ⟨Nat.le_of_ble_eq_true rfl, Nat.le_of_ble_eq_true rfl⟩) (z_recv (q := (RX5, TX5, 9)) hK (hP 0 _ rfl) rfl) (zM_of hP) rfl hl.1 rfl (Nat.le_of_ble_eq_true rfl) dX5_transfer_51 ⟨Nat.zero_le _, Nat.zero_le _⟩ ?_
            refine lv_isub hx hb dX5_transfer_54 ?_
            refine lv_istore (lv' := [(5, .int ((creI d a n) - (usedI d (nI a) (nI n)))), (0, .ref m), (1, .int (nI a)), (2, .int (nI b)), (3, .int (nI n)), (4, .int c)]) hx hb dX5_transfer_55 hl (by decide) rfl (fun ls hl => ?_)
            refine lv_iload hx hb dX5_transfer_57 (lv_at hl 0 rfl) ?_
            refine lv_iload hx hb dX5_transfer_59 (lv_at hl 5 rfl) ?_
            refine lv_icmp_ge (tgt := 68) hx hb dX5_transfer_61 (by decide) (fun c61 => ?_) (fun c61 => ?_)
            · refine lv_aload_n hx hb dX5_transfer_68 rfl (lv_at hl 1 rfl) ?_
              refine w_callV (As := []) (rest := []) hF hK (c_X5_records l D y m d was as tx gt k ty pa rs (by omega)) (cwV 0 hts gX5_transfer_X5_records rfl rfl rfl (by decide +kernel) ⟨Nat.le_of_ble_eq_true rfl, Nat.le_of_ble_eq_true rfl⟩) (z_recv (q := (RX5, TX5, 9)) hK (hP 0 _ rfl) rfl) hP hS (fun q h => h) rfl hl.1 rfl (Nat.le_of_ble_eq_true rfl) dX5_transfer_69 ⟨Nat.zero_le _, Nat.zero_le _⟩ (fun H1 locs1 hP hz hk hS => ?_)
              have hP : va_P D vwCl (mWs y m d (recW d was k) as tx gt (nI (recN k)) ty pa rs) H1 := hP
              clear hz hk
              refine lv_aload_n hx hb dX5_transfer_72 rfl (lv_at hl 1 rfl) ?_
              refine z_get (fs := [.ref (m + 1), .ref (m + 2), .int (nI (recN k)), .ref (m + 3), .ref (m + 4), .int ty, .int pa, .int rs, .ref (m + 5)]) (ref := "CranePermitsModel") (C := RX5) (T := TX5) (N := 9) (ci := 5) (v := .ref (m + 1)) hx hb hts i_c_X5_transfer_ok_X5 hown hK (hP 0 _ rfl) 0 (by decide) rfl (hts (.fieldLink RX5 7 "CranePermitsModel" "d" "[I") (List.mem_of_getElem? (i := 1) rfl)) rfl rfl dX5_transfer_73 ?_
              refine lv_sipush (v := (nI 322)) hx hb dX5_transfer_76 (by decide) ?_
              refine lv_iload_n hx hb dX5_transfer_79 rfl (lv_at hl 2 rfl) ?_
              refine lv_iload_n hx hb dX5_transfer_80 rfl (lv_at hl 4 rfl) ?_
              refine z_callS (As := [.int (nI a), .int (nI n)]) (rest := [.int (nI 322), .ref (m + 1)]) hF hK (c_X5_spot l D y a n ) (va_cwS 2 hts gX5_transfer_X5_spot rfl rfl rfl (by decide +kernel) ⟨Nat.le_of_ble_eq_true rfl, Nat.le_of_ble_eq_true rfl⟩) trivial rfl hl.1 rfl (Nat.le_of_ble_eq_true rfl) dX5_transfer_81 ⟨Nat.zero_le _, Nat.zero_le _⟩ ?_
              refine z_iadd hx hb dX5_transfer_84 ?_
              refine lv_dup2_11 hx hb dX5_transfer_85 rfl rfl ?_
              refine z_iald (f := d) hx hb hK (hP 1 _ rfl) (by omega) (by decide) dX5_transfer_86 ?_
              refine lv_iload hx hb dX5_transfer_87 (lv_at hl 5 rfl) ?_
              refine lv_iadd hx hb dX5_transfer_89 ?_
              refine y_iast (a := (m + 1)) (f := d) (i := (322 + (30 * a + n))) hx hb hK (hP 1 _ rfl) (by omega) (by decide) dX5_transfer_90 (fun H2 hU hV => ?_)
              have hS := hS.upd (x := (322 + (30 * a + n))) hU (blk_in (by omega) (by omega))
              have hP : va_P D vwCl (mWs y m (upd d (322 + (30 * a + n)) ((d (322 + (30 * a + n))) + c)) (recW d was k) as tx gt (nI (recN k)) ty pa rs) H2 := hP.upd (q0 := 1) mWs_D rfl hU hV
              clear hU hV
              refine lv_aload_n hx hb dX5_transfer_91 rfl (lv_at hl 1 rfl) ?_
              refine z_get (fs := [.ref (m + 1), .ref (m + 2), .int (nI (recN k)), .ref (m + 3), .ref (m + 4), .int ty, .int pa, .int rs, .ref (m + 5)]) (ref := "CranePermitsModel") (C := RX5) (T := TX5) (N := 9) (ci := 5) (v := .ref (m + 1)) hx hb hts i_c_X5_transfer_ok_X5 hown hK (hP 0 _ rfl) 0 (by decide) rfl (hts (.fieldLink RX5 7 "CranePermitsModel" "d" "[I") (List.mem_of_getElem? (i := 1) rfl)) rfl rfl dX5_transfer_92 ?_
              refine lv_sipush (v := (nI 202)) hx hb dX5_transfer_95 (by decide) ?_
              refine lv_iload_n hx hb dX5_transfer_98 rfl (lv_at hl 3 rfl) ?_
              refine lv_iload_n hx hb dX5_transfer_99 rfl (lv_at hl 4 rfl) ?_
              refine z_callS (As := [.int (nI b), .int (nI n)]) (rest := [.int (nI 202), .ref (m + 1)]) hF hK (c_X5_spot l D y b n ) (va_cwS 2 hts gX5_transfer_X5_spot rfl rfl rfl (by decide +kernel) ⟨Nat.le_of_ble_eq_true rfl, Nat.le_of_ble_eq_true rfl⟩) trivial rfl hl.1 rfl (Nat.le_of_ble_eq_true rfl) dX5_transfer_100 ⟨Nat.zero_le _, Nat.zero_le _⟩ ?_
              refine z_iadd hx hb dX5_transfer_103 ?_
              refine lv_dup2_11 hx hb dX5_transfer_104 rfl rfl ?_
              refine z_iald (f := (upd d (322 + (30 * a + n)) ((d (322 + (30 * a + n))) + c))) hx hb hK (hP 1 _ rfl) (by omega) (by decide) dX5_transfer_105 ?_
              refine lv_iload hx hb dX5_transfer_106 (lv_at hl 5 rfl) ?_
              refine lv_iadd hx hb dX5_transfer_108 ?_
              refine y_iast (a := (m + 1)) (f := (upd d (322 + (30 * a + n)) ((d (322 + (30 * a + n))) + c))) (i := (202 + (30 * b + n))) hx hb hK (hP 1 _ rfl) (by omega) (by decide) dX5_transfer_109 (fun H3 hU hV => ?_)
              have hS := hS.upd (x := (202 + (30 * b + n))) hU (blk_in (by omega) (by omega))
              have hP : va_P D vwCl (mWs y m (upd (upd d (322 + (30 * a + n)) ((d (322 + (30 * a + n))) + c)) (202 + (30 * b + n)) (((upd d (322 + (30 * a + n)) ((d (322 + (30 * a + n))) + c)) (202 + (30 * b + n))) + c)) (recW d was k) as tx gt (nI (recN k)) ty pa rs) H3 := hP.upd (q0 := 1) mWs_D rfl hU hV
              clear hU hV
              refine lv_iload hx hb dX5_transfer_110 (lv_at hl 0 rfl) ?_
              refine lv_iload hx hb dX5_transfer_112 (lv_at hl 5 rfl) ?_
              refine lv_isub hx hb dX5_transfer_114 ?_
              exact w_reti hx hb hr hlocks hS (hP) (rfl) dX5_transfer_115
            · exact absurd hf c61
          · first | exact absurd (inB_of (lo := 0) (hi := 3) (Nat.zero_le a) (by omega) (by decide)) (bf c4) | exact absurd (inB_of (lo := 0) (hi := 3) (Nat.zero_le b) (by omega) (by decide)) (bf c11) | exact absurd c16 hab | exact absurd (inB_of (lo := 0) (hi := 29) (Nat.zero_le n) (by omega) (by decide)) (bf c23) | exact absurd hc (bf c35)
set_option maxRecDepth 100000 in
set_option maxHeartbeats 4000000 in
theorem c_X5_transfer_no (l : Launch) (D : va_G) (y : zY) (m : Nat) (d : Nat → Int32) (was : Nat → Int32) (as : Nat → Int32) (tx : Nat → Int32) (gt : Nat → Int32) (k : Nat) (ty : Int32) (pa : Int32) (rs : Int32) (a : Int32) (b : Int32) (n : Int32) (c : Int32) (hI : zI d) (hk4 : k ≤ 4) (hno : ¬ (okTr a b n c = true ∧ c ≤ freI d (cl a) (cl n))) : Met l yX5_transfer wsX5_transfer ({ frames := 3, cells := 0, slots := 0, locals := 69 }) (zP [.ref m, .int a, .int b, .int n, .int c] (va_P D vwCl (mWs y m d was as tx gt (nI k) ty pa rs)) D y) (zW (some (.int (eIf (okTr a b n c) (-1002)))) (va_P D vwCl (mWs y m d was as tx gt (nI k) ty pa rs)) (blk m 6)) 0 0 (blk m 6) := by
  refine z_body (cc := cX5_transfer) (maxL := 6) (ret := (some .int)) (la := [(0, .ref m), (1, .int a), (2, .int b), (3, .int n), (4, .int c)]) (by decide) rfl (Nat.le_of_ble_eq_true rfl) rfl ?_
  intro pg ev s mm below meth c0 ls hx hb hr hF hlocks hΦ hK hl _
  have hts := hF.2.2.2.2
  have hown : s.vm.findClass RX5 = some mm.cls := hF.2.2.2.1
  have hP : va_P D vwCl (mWs y m d was as tx gt (nI k) ty pa rs) s.heap := hΦ
  have hS : va_S (blk m 6) s.heap s.heap [] := va_S.rf
  have hG2 := hI.ng2
  have hC8 := hI.nc8
  have hrk := recN_le hk4
  refine lv_iload_n hx hb dX5_transfer_0 rfl (lv_at hl 1 rfl) ?_
  refine z_callS (As := [.int a]) (rest := []) hF hK (c_X5_isStreet l D y a ) (va_cwS 1 hts gX5_transfer_X5_isStreet rfl rfl rfl (by decide +kernel) ⟨Nat.le_of_ble_eq_true rfl, Nat.le_of_ble_eq_true rfl⟩) trivial rfl hl.1 rfl (Nat.le_of_ble_eq_true rfl) dX5_transfer_1 ⟨Nat.zero_le _, Nat.zero_le _⟩ ?_
  refine z_ifeq (tgt := 38) hx hb dX5_transfer_4 (by decide) (fun c4 => ?_) (fun c4 => ?_)
  · refine lv_sipush (v := (-1001)) hx hb dX5_transfer_38 (by decide) ?_
    exact w_reti hx hb hr hlocks hS (hP) (by unfold eIf; rw [if_neg (bf _)]; unfold okTr; first | (rw [c4]; rfl) | (rw [c4, c11]; rfl) | (rw [c4, c11, decide_eq_true c16]; rfl) | (rw [c4, c11, c23, decide_eq_false c16]; rfl) | (rw [c4, c11, c23, c35, decide_eq_false c16]; rfl)) dX5_transfer_41
  · refine lv_iload_n hx hb dX5_transfer_7 rfl (lv_at hl 2 rfl) ?_
    refine z_callS (As := [.int b]) (rest := []) hF hK (c_X5_isStreet l D y b ) (va_cwS 1 hts gX5_transfer_X5_isStreet rfl rfl rfl (by decide +kernel) ⟨Nat.le_of_ble_eq_true rfl, Nat.le_of_ble_eq_true rfl⟩) trivial rfl hl.1 rfl (Nat.le_of_ble_eq_true rfl) dX5_transfer_8 ⟨Nat.zero_le _, Nat.zero_le _⟩ ?_
    refine z_ifeq (tgt := 38) hx hb dX5_transfer_11 (by decide) (fun c11 => ?_) (fun c11 => ?_)
    · refine lv_sipush (v := (-1001)) hx hb dX5_transfer_38 (by decide) ?_
      exact w_reti hx hb hr hlocks hS (hP) (by unfold eIf; rw [if_neg (bf _)]; unfold okTr; first | (rw [c4]; rfl) | (rw [c4, c11]; rfl) | (rw [c4, c11, decide_eq_true c16]; rfl) | (rw [c4, c11, c23, decide_eq_false c16]; rfl) | (rw [c4, c11, c23, c35, decide_eq_false c16]; rfl)) dX5_transfer_41
    · refine lv_iload_n hx hb dX5_transfer_14 rfl (lv_at hl 1 rfl) ?_
      refine lv_iload_n hx hb dX5_transfer_15 rfl (lv_at hl 2 rfl) ?_
      refine lv_icmp_eq (tgt := 38) hx hb dX5_transfer_16 (by decide) (fun c16 => ?_) (fun c16 => ?_)
      · refine lv_sipush (v := (-1001)) hx hb dX5_transfer_38 (by decide) ?_
        exact w_reti hx hb hr hlocks hS (hP) (by unfold eIf; rw [if_neg (bf _)]; unfold okTr; first | (rw [c4]; rfl) | (rw [c4, c11]; rfl) | (rw [c4, c11, decide_eq_true c16]; rfl) | (rw [c4, c11, c23, decide_eq_false c16]; rfl) | (rw [c4, c11, c23, c35, decide_eq_false c16]; rfl)) dX5_transfer_41
      · refine lv_iload_n hx hb dX5_transfer_19 rfl (lv_at hl 3 rfl) ?_
        refine z_callS (As := [.int n]) (rest := []) hF hK (c_X5_isNight l D y n ) (va_cwS 1 hts gX5_transfer_X5_isNight rfl rfl rfl (by decide +kernel) ⟨Nat.le_of_ble_eq_true rfl, Nat.le_of_ble_eq_true rfl⟩) trivial rfl hl.1 rfl (Nat.le_of_ble_eq_true rfl) dX5_transfer_20 ⟨Nat.zero_le _, Nat.zero_le _⟩ ?_
        refine z_ifeq (tgt := 38) hx hb dX5_transfer_23 (by decide) (fun c23 => ?_) (fun c23 => ?_)
        · refine lv_sipush (v := (-1001)) hx hb dX5_transfer_38 (by decide) ?_
          exact w_reti hx hb hr hlocks hS (hP) (by unfold eIf; rw [if_neg (bf _)]; unfold okTr; first | (rw [c4]; rfl) | (rw [c4, c11]; rfl) | (rw [c4, c11, decide_eq_true c16]; rfl) | (rw [c4, c11, c23, decide_eq_false c16]; rfl) | (rw [c4, c11, c23, c35, decide_eq_false c16]; rfl)) dX5_transfer_41
        · refine lv_iload hx hb dX5_transfer_26 (lv_at hl 4 rfl) ?_
          refine lv_iconst (v := (nI 1)) hx hb dX5_transfer_28 (by decide) ?_
          refine lv_sipush (v := (nI 200)) hx hb dX5_transfer_29 (by decide) ?_
          refine z_callS (As := [.int c, .int (nI 1), .int (nI 200)]) (rest := []) hF hK (c_X5_in l D y c (nI 1) (nI 200) ) (va_cwS 3 hts gX5_transfer_X5_in rfl rfl rfl (by decide +kernel) ⟨Nat.le_of_ble_eq_true rfl, Nat.le_of_ble_eq_true rfl⟩) trivial rfl hl.1 rfl (Nat.le_of_ble_eq_true rfl) dX5_transfer_32 ⟨Nat.zero_le _, Nat.zero_le _⟩ ?_
          refine z_ifne (tgt := 42) hx hb dX5_transfer_35 (by decide) (fun c35 => ?_) (fun c35 => ?_)
          · obtain ⟨j, lj, hj, rfl⟩ := inB_nat (by decide) c4 (by decide)
            have ej : cl (nI j) = j := cl_nI (by omega)
            obtain ⟨i, li, hi, rfl⟩ := inB_nat (by decide) c23 (by decide)
            have ei : cl (nI i) = i := cl_nI (by omega)
            refine lv_aload_n hx hb dX5_transfer_42 rfl (lv_at hl 0 rfl) ?_
            refine lv_iload_n hx hb dX5_transfer_43 rfl (lv_at hl 1 rfl) ?_
            refine lv_iload_n hx hb dX5_transfer_44 rfl (lv_at hl 3 rfl) ?_
            refine z_callV (As := [.int (nI j), .int (nI i)]) (rest := []) hF hK (c_X5_credits l D y m d j i (by omega) (by omega)) (cwV 2 hts gX5_transfer_X5_credits rfl rfl rfl (by decide +kernel) ⟨Nat.le_of_ble_eq_true rfl, Nat.le_of_ble_eq_true rfl⟩) (z_recv (q := (RX5, TX5, 9)) hK (hP 0 _ rfl) rfl) (zM_of hP) rfl hl.1 rfl (Nat.le_of_ble_eq_true rfl) dX5_transfer_45 ⟨Nat.zero_le _, Nat.zero_le _⟩ ?_
            refine lv_aload_n hx hb dX5_transfer_48 rfl (lv_at hl 0 rfl) ?_
            refine lv_iload_n hx hb dX5_transfer_49 rfl (lv_at hl 1 rfl) ?_
            refine lv_iload_n hx hb dX5_transfer_50 rfl (lv_at hl 3 rfl) ?_
            refine z_callV (As := [.int (nI j), .int (nI i)]) (rest := [.int (creI d j i)]) hF hK (c_X5_used l D y m d (nI j) (nI i) (hI)) (cwV 2 hts gX5_transfer_X5_used rfl rfl rfl (by decide +kernel) ⟨Nat.le_of_ble_eq_true rfl, Nat.le_of_ble_eq_true rfl⟩) (z_recv (q := (RX5, TX5, 9)) hK (hP 0 _ rfl) rfl) (zM_of hP) rfl hl.1 rfl (Nat.le_of_ble_eq_true rfl) dX5_transfer_51 ⟨Nat.zero_le _, Nat.zero_le _⟩ ?_
            refine lv_isub hx hb dX5_transfer_54 ?_
            refine lv_istore (lv' := [(5, .int ((creI d j i) - (usedI d (nI j) (nI i)))), (0, .ref m), (1, .int (nI j)), (2, .int b), (3, .int (nI i)), (4, .int c)]) hx hb dX5_transfer_55 hl (by decide) rfl (fun ls hl => ?_)
            refine lv_iload hx hb dX5_transfer_57 (lv_at hl 0 rfl) ?_
            refine lv_iload hx hb dX5_transfer_59 (lv_at hl 5 rfl) ?_
            refine lv_icmp_ge (tgt := 68) hx hb dX5_transfer_61 (by decide) (fun c61 => ?_) (fun c61 => ?_)
            · exact absurd ⟨by unfold okTr; rw [c4, c11, c23, c35, decide_eq_false c16]; rfl, by rw [ej, ei]; exact c61⟩ hno
            · refine lv_sipush (v := (-1002)) hx hb dX5_transfer_64 (by decide) ?_
              exact w_reti hx hb hr hlocks hS (hP) (by unfold eIf; rw [if_pos (show okTr (nI j) b (nI i) c = true by unfold okTr; rw [c4, c11, c23, c35, decide_eq_false c16]; rfl)]) dX5_transfer_67
          · refine lv_sipush (v := (-1001)) hx hb dX5_transfer_38 (by decide) ?_
            exact w_reti hx hb hr hlocks hS (hP) (by unfold eIf; rw [if_neg (bf _)]; unfold okTr; first | (rw [c4]; rfl) | (rw [c4, c11]; rfl) | (rw [c4, c11, decide_eq_true c16]; rfl) | (rw [c4, c11, c23, decide_eq_false c16]; rfl) | (rw [c4, c11, c23, c35, decide_eq_false c16]; rfl)) dX5_transfer_41
theorem i_c_X5_withdraw_ok_X5 : ∀ w ∈ wsX50, w ∈ wsX5_withdraw := fun w h => (List.mem_cons_of_mem _ (List.mem_append_right _ h))
set_option maxRecDepth 100000 in
set_option maxHeartbeats 4000000 in
theorem c_X5_withdraw_ok (l : Launch) (D : va_G) (y : zY) (m : Nat) (d : Nat → Int32) (was : Nat → Int32) (as : Nat → Int32) (tx : Nat → Int32) (gt : Nat → Int32) (k : Nat) (ty : Int32) (pa : Int32) (rs : Int32) (p : Nat) (hI : zI d) (hk4 : k ≤ 4) (hp : p < nG d) (hv : pm d p 4 = nI 1) : Met l yX5_withdraw wsX5_withdraw ({ frames := 2, cells := 0, slots := 0, locals := 43 }) (zP [.ref m, .int (nI p)] (va_P D vwCl (mWs y m d was as tx gt (nI k) ty pa rs)) D y) (zW (some (.int (usI d p))) (va_P D vwCl (mWs y m (wdrD d p) (recW d was k) as tx gt (nI (recN k)) ty pa rs)) (blk m 6)) 0 0 (blk m 6) := by
  refine z_body (cc := cX5_withdraw) (maxL := 2) (ret := (some .int)) (la := [(0, .ref m), (1, .int (nI p))]) (by decide) rfl (Nat.le_of_ble_eq_true rfl) rfl ?_
  intro pg ev s mm below meth c0 ls hx hb hr hF hlocks hΦ hK hl _
  have hts := hF.2.2.2.2
  have hown : s.vm.findClass RX5 = some mm.cls := hF.2.2.2.1
  have hP : va_P D vwCl (mWs y m d was as tx gt (nI k) ty pa rs) s.heap := hΦ
  have hS : va_S (blk m 6) s.heap s.heap [] := va_S.rf
  have hG2 := hI.ng2
  have hC8 := hI.nc8
  have hrk := recN_le hk4
  refine lv_aload_n hx hb dX5_withdraw_0 rfl (lv_at hl 0 rfl) ?_
  refine lv_iload_n hx hb dX5_withdraw_1 rfl (lv_at hl 1 rfl) ?_
  refine z_callV (As := [.int (nI p)]) (rest := []) hF hK (c_X5_isPermit l D y m d (nI p) (hI)) (cwV 1 hts gX5_withdraw_X5_isPermit rfl rfl rfl (by decide +kernel) ⟨Nat.le_of_ble_eq_true rfl, Nat.le_of_ble_eq_true rfl⟩) (z_recv (q := (RX5, TX5, 9)) hK (hP 0 _ rfl) rfl) (zM_of hP) rfl hl.1 rfl (Nat.le_of_ble_eq_true rfl) dX5_withdraw_2 ⟨Nat.zero_le _, Nat.zero_le _⟩ ?_
  refine z_ifne (tgt := 12) hx hb dX5_withdraw_5 (by decide) (fun c5 => ?_) (fun c5 => ?_)
  · refine lv_aload_n hx hb dX5_withdraw_12 rfl (lv_at hl 0 rfl) ?_
    refine lv_iload_n hx hb dX5_withdraw_13 rfl (lv_at hl 1 rfl) ?_
    refine lv_iconst (v := (nI 4)) hx hb dX5_withdraw_14 (by decide) ?_
    refine z_callV (As := [.int (nI p), .int (nI 4)]) (rest := []) hF hK (c_X5_of l D y m d p 4 (by omega) (by omega)) (cwV 2 hts gX5_withdraw_X5_of rfl rfl rfl (by decide +kernel) ⟨Nat.le_of_ble_eq_true rfl, Nat.le_of_ble_eq_true rfl⟩) (z_recv (q := (RX5, TX5, 9)) hK (hP 0 _ rfl) rfl) (zM_of hP) rfl hl.1 rfl (Nat.le_of_ble_eq_true rfl) dX5_withdraw_15 ⟨Nat.zero_le _, Nat.zero_le _⟩ ?_
    refine lv_iconst (v := (nI 1)) hx hb dX5_withdraw_18 (by decide) ?_
    refine lv_icmp_eq (tgt := 26) hx hb dX5_withdraw_19 (by decide) (fun c19 => ?_) (fun c19 => ?_)
    · refine lv_aload_n hx hb dX5_withdraw_26 rfl (lv_at hl 0 rfl) ?_
      refine w_callV (As := []) (rest := []) hF hK (c_X5_records l D y m d was as tx gt k ty pa rs (by omega)) (cwV 0 hts gX5_withdraw_X5_records rfl rfl rfl (by decide +kernel) ⟨Nat.le_of_ble_eq_true rfl, Nat.le_of_ble_eq_true rfl⟩) (z_recv (q := (RX5, TX5, 9)) hK (hP 0 _ rfl) rfl) hP hS (fun q h => h) rfl hl.1 rfl (Nat.le_of_ble_eq_true rfl) dX5_withdraw_27 ⟨Nat.zero_le _, Nat.zero_le _⟩ (fun H1 locs1 hP hz hk hS => ?_)
      have hP : va_P D vwCl (mWs y m d (recW d was k) as tx gt (nI (recN k)) ty pa rs) H1 := hP
      clear hz hk
      refine lv_aload_n hx hb dX5_withdraw_30 rfl (lv_at hl 0 rfl) ?_
      refine z_get (fs := [.ref (m + 1), .ref (m + 2), .int (nI (recN k)), .ref (m + 3), .ref (m + 4), .int ty, .int pa, .int rs, .ref (m + 5)]) (ref := "CranePermitsModel") (C := RX5) (T := TX5) (N := 9) (ci := 5) (v := .ref (m + 1)) hx hb hts i_c_X5_withdraw_ok_X5 hown hK (hP 0 _ rfl) 0 (by decide) rfl (hts (.fieldLink RX5 7 "CranePermitsModel" "d" "[I") (List.mem_of_getElem? (i := 1) rfl)) rfl rfl dX5_withdraw_31 ?_
      refine lv_sipush (v := (nI 445)) hx hb dX5_withdraw_34 (by decide) ?_
      refine lv_iconst (v := (nI 5)) hx hb dX5_withdraw_37 (by decide) ?_
      refine lv_iload_n hx hb dX5_withdraw_38 rfl (lv_at hl 1 rfl) ?_
      refine z_imul hx hb dX5_withdraw_39 ?_
      refine z_iadd hx hb dX5_withdraw_40 ?_
      refine lv_iconst (v := (nI 4)) hx hb dX5_withdraw_41 (by decide) ?_
      refine z_iadd hx hb dX5_withdraw_42 ?_
      refine lv_iconst (v := (nI 2)) hx hb dX5_withdraw_43 (by decide) ?_
      refine y_iast (a := (m + 1)) (f := d) (i := ((445 + (5 * p)) + 4)) hx hb hK (hP 1 _ rfl) (by omega) (by decide) dX5_withdraw_44 (fun H2 hU hV => ?_)
      have hS := hS.upd (x := ((445 + (5 * p)) + 4)) hU (blk_in (by omega) (by omega))
      have hP : va_P D vwCl (mWs y m (upd d ((445 + (5 * p)) + 4) (nI 2)) (recW d was k) as tx gt (nI (recN k)) ty pa rs) H2 := hP.upd (q0 := 1) mWs_D rfl hU hV
      clear hU hV
      refine lv_aload_n hx hb dX5_withdraw_45 rfl (lv_at hl 0 rfl) ?_
      refine z_get (fs := [.ref (m + 1), .ref (m + 2), .int (nI (recN k)), .ref (m + 3), .ref (m + 4), .int ty, .int pa, .int rs, .ref (m + 5)]) (ref := "CranePermitsModel") (C := RX5) (T := TX5) (N := 9) (ci := 5) (v := .ref (m + 1)) hx hb hts i_c_X5_withdraw_ok_X5 hown hK (hP 0 _ rfl) 0 (by decide) rfl (hts (.fieldLink RX5 7 "CranePermitsModel" "d" "[I") (List.mem_of_getElem? (i := 1) rfl)) rfl rfl dX5_withdraw_46 ?_
      refine lv_sipush (v := (nI 443)) hx hb dX5_withdraw_49 (by decide) ?_
      refine lv_dup2_11 hx hb dX5_withdraw_52 rfl rfl ?_
      refine z_iald (f := (upd d ((445 + (5 * p)) + 4) (nI 2))) hx hb hK (hP 1 _ rfl) (by omega) (by decide) dX5_withdraw_53 ?_
      refine lv_iconst (v := (nI 1)) hx hb dX5_withdraw_54 (by decide) ?_
      refine lv_iadd hx hb dX5_withdraw_55 ?_
      refine y_iast (a := (m + 1)) (f := (upd d ((445 + (5 * p)) + 4) (nI 2))) (i := 443) hx hb hK (hP 1 _ rfl) (by omega) (by decide) dX5_withdraw_56 (fun H3 hU hV => ?_)
      have hS := hS.upd (x := 443) hU (blk_in (by omega) (by omega))
      have hP : va_P D vwCl (mWs y m (upd (upd d ((445 + (5 * p)) + 4) (nI 2)) 443 (((upd d ((445 + (5 * p)) + 4) (nI 2)) 443) + (nI 1))) (recW d was k) as tx gt (nI (recN k)) ty pa rs) H3 := hP.upd (q0 := 1) mWs_D rfl hU hV
      clear hU hV
      refine lv_aload_n hx hb dX5_withdraw_57 rfl (lv_at hl 0 rfl) ?_
      refine lv_iload_n hx hb dX5_withdraw_58 rfl (lv_at hl 1 rfl) ?_
      refine z_callV (As := [.int (nI p)]) (rest := []) hF hK (c_X5_uses l D y m (upd (upd d ((445 + (5 * p)) + 4) (nI 2)) 443 (((upd d ((445 + (5 * p)) + 4) (nI 2)) 443) + (nI 1))) p ((wdr_I hI p).1) (by rw [show nG (upd (upd d (445 + (5 * p) + 4) (nI 2)) 443 _) = nG d from (wdr_I hI p).2]; exact hp)) (cwV 1 hts gX5_withdraw_X5_uses rfl rfl rfl (by decide +kernel) ⟨Nat.le_of_ble_eq_true rfl, Nat.le_of_ble_eq_true rfl⟩) (z_recv (q := (RX5, TX5, 9)) hK (hP 0 _ rfl) rfl) (zM_of hP) rfl hl.1 rfl (Nat.le_of_ble_eq_true rfl) dX5_withdraw_59 ⟨Nat.zero_le _, Nat.zero_le _⟩ ?_
      exact w_reti hx hb hr hlocks hS (hP) (wdr_us hI hp) dX5_withdraw_62
    · exact absurd hv c19
  · exact absurd (inB_g hI hp) (bf c5)
set_option maxRecDepth 100000 in
set_option maxHeartbeats 4000000 in
theorem c_X5_withdraw_no (l : Launch) (D : va_G) (y : zY) (m : Nat) (d : Nat → Int32) (was : Nat → Int32) (as : Nat → Int32) (tx : Nat → Int32) (gt : Nat → Int32) (k : Nat) (ty : Int32) (pa : Int32) (rs : Int32) (p : Int32) (hI : zI d) (hk4 : k ≤ 4) (hno : ¬ (inB p (nI 0) (d 442 - nI 1) = true ∧ pm d (cl p) 4 = nI 1)) : Met l yX5_withdraw wsX5_withdraw ({ frames := 2, cells := 0, slots := 0, locals := 43 }) (zP [.ref m, .int p] (va_P D vwCl (mWs y m d was as tx gt (nI k) ty pa rs)) D y) (zW (some (.int (eIf (inB p (nI 0) (d 442 - nI 1)) (-1002)))) (va_P D vwCl (mWs y m d was as tx gt (nI k) ty pa rs)) (blk m 6)) 0 0 (blk m 6) := by
  refine z_body (cc := cX5_withdraw) (maxL := 2) (ret := (some .int)) (la := [(0, .ref m), (1, .int p)]) (by decide) rfl (Nat.le_of_ble_eq_true rfl) rfl ?_
  intro pg ev s mm below meth c0 ls hx hb hr hF hlocks hΦ hK hl _
  have hts := hF.2.2.2.2
  have hown : s.vm.findClass RX5 = some mm.cls := hF.2.2.2.1
  have hP : va_P D vwCl (mWs y m d was as tx gt (nI k) ty pa rs) s.heap := hΦ
  have hS : va_S (blk m 6) s.heap s.heap [] := va_S.rf
  have hG2 := hI.ng2
  have hC8 := hI.nc8
  have hrk := recN_le hk4
  refine lv_aload_n hx hb dX5_withdraw_0 rfl (lv_at hl 0 rfl) ?_
  refine lv_iload_n hx hb dX5_withdraw_1 rfl (lv_at hl 1 rfl) ?_
  refine z_callV (As := [.int p]) (rest := []) hF hK (c_X5_isPermit l D y m d p (hI)) (cwV 1 hts gX5_withdraw_X5_isPermit rfl rfl rfl (by decide +kernel) ⟨Nat.le_of_ble_eq_true rfl, Nat.le_of_ble_eq_true rfl⟩) (z_recv (q := (RX5, TX5, 9)) hK (hP 0 _ rfl) rfl) (zM_of hP) rfl hl.1 rfl (Nat.le_of_ble_eq_true rfl) dX5_withdraw_2 ⟨Nat.zero_le _, Nat.zero_le _⟩ ?_
  refine z_ifne (tgt := 12) hx hb dX5_withdraw_5 (by decide) (fun c5 => ?_) (fun c5 => ?_)
  · obtain ⟨j, hj, rfl⟩ := in_ng hI c5
    have ej : cl (nI j) = j := cl_nI (by omega)
    refine lv_aload_n hx hb dX5_withdraw_12 rfl (lv_at hl 0 rfl) ?_
    refine lv_iload_n hx hb dX5_withdraw_13 rfl (lv_at hl 1 rfl) ?_
    refine lv_iconst (v := (nI 4)) hx hb dX5_withdraw_14 (by decide) ?_
    refine z_callV (As := [.int (nI j), .int (nI 4)]) (rest := []) hF hK (c_X5_of l D y m d j 4 (by omega) (by omega)) (cwV 2 hts gX5_withdraw_X5_of rfl rfl rfl (by decide +kernel) ⟨Nat.le_of_ble_eq_true rfl, Nat.le_of_ble_eq_true rfl⟩) (z_recv (q := (RX5, TX5, 9)) hK (hP 0 _ rfl) rfl) (zM_of hP) rfl hl.1 rfl (Nat.le_of_ble_eq_true rfl) dX5_withdraw_15 ⟨Nat.zero_le _, Nat.zero_le _⟩ ?_
    refine lv_iconst (v := (nI 1)) hx hb dX5_withdraw_18 (by decide) ?_
    refine lv_icmp_eq (tgt := 26) hx hb dX5_withdraw_19 (by decide) (fun c19 => ?_) (fun c19 => ?_)
    · exact absurd ⟨c5, by rw [ej]; exact c19⟩ hno
    · refine lv_sipush (v := (-1002)) hx hb dX5_withdraw_22 (by decide) ?_
      exact w_reti hx hb hr hlocks hS (hP) (by unfold eIf; rw [if_pos c5]) dX5_withdraw_25
  · refine lv_sipush (v := (-1001)) hx hb dX5_withdraw_8 (by decide) ?_
    exact w_reti hx hb hr hlocks hS (hP) (by unfold eIf; rw [if_neg (bf c5)]) dX5_withdraw_11
set_option maxRecDepth 100000 in
set_option maxHeartbeats 4000000 in
theorem c_X5_apply_ok (l : Launch) (D : va_G) (y : zY) (m : Nat) (d : Nat → Int32) (was : Nat → Int32) (as : Nat → Int32) (tx : Nat → Int32) (gt : Nat → Int32) (k : Nat) (ty : Int32) (pa : Int32) (rs : Int32) (c : Nat) (n : Nat) (h : Int32) (sw : Int32) (hI : zI d) (hk4 : k ≤ 4) (ha : aplB d (nI c) (nI n) h sw = true) (hc : c < nC d) (hn : n < 30) (hr0 : rfsI d c n h sw = nI 0) (hf : fulB d = false) (hg : nG d < 200) : Met l yX5_apply wsX5_apply ({ frames := 6, cells := 0, slots := 0, locals := 150 }) (zP [.ref m, .int (nI c), .int (nI n), .int h, .int sw] (va_P D vwCl (mWs y m d was as tx gt (nI k) ty pa rs)) D y) (zW (some (.int (nI (nG d)))) (va_P D vwCl (mWs y m (graD d c n h sw) (recW d was k) as tx gt (nI (recN k)) ty pa rs)) (blk m 6)) 0 0 (blk m 6) := by
  refine z_body (cc := cX5_apply) (maxL := 5) (ret := (some .int)) (la := [(0, .ref m), (1, .int (nI c)), (2, .int (nI n)), (3, .int h), (4, .int sw)]) (by decide) rfl (Nat.le_of_ble_eq_true rfl) rfl ?_
  intro pg ev s mm below meth c0 ls hx hb hr hF hlocks hΦ hK hl _
  have hts := hF.2.2.2.2
  have hown : s.vm.findClass RX5 = some mm.cls := hF.2.2.2.1
  have hP : va_P D vwCl (mWs y m d was as tx gt (nI k) ty pa rs) s.heap := hΦ
  have hS : va_S (blk m 6) s.heap s.heap [] := va_S.rf
  have hG2 := hI.ng2
  have hC8 := hI.nc8
  have hrk := recN_le hk4
  refine lv_aload_n hx hb dX5_apply_0 rfl (lv_at hl 0 rfl) ?_
  refine lv_iload_n hx hb dX5_apply_1 rfl (lv_at hl 1 rfl) ?_
  refine lv_iload_n hx hb dX5_apply_2 rfl (lv_at hl 2 rfl) ?_
  refine lv_iload_n hx hb dX5_apply_3 rfl (lv_at hl 3 rfl) ?_
  refine lv_iload hx hb dX5_apply_4 (lv_at hl 4 rfl) ?_
  refine z_callV (As := [.int (nI c), .int (nI n), .int h, .int sw]) (rest := []) hF hK (c_X5_isApplication l D y m d (nI c) (nI n) h sw (hI)) (cwV 4 hts gX5_apply_X5_isApplication rfl rfl rfl (by decide +kernel) ⟨Nat.le_of_ble_eq_true rfl, Nat.le_of_ble_eq_true rfl⟩) (z_recv (q := (RX5, TX5, 9)) hK (hP 0 _ rfl) rfl) (zM_of hP) rfl hl.1 rfl (Nat.le_of_ble_eq_true rfl) dX5_apply_6 ⟨Nat.zero_le _, Nat.zero_le _⟩ ?_
  refine z_ifne (tgt := 16) hx hb dX5_apply_9 (by decide) (fun c9 => ?_) (fun c9 => ?_)
  · refine lv_aload_n hx hb dX5_apply_16 rfl (lv_at hl 0 rfl) ?_
    refine lv_iload_n hx hb dX5_apply_17 rfl (lv_at hl 1 rfl) ?_
    refine lv_iload_n hx hb dX5_apply_18 rfl (lv_at hl 2 rfl) ?_
    refine lv_iload_n hx hb dX5_apply_19 rfl (lv_at hl 3 rfl) ?_
    refine lv_iload hx hb dX5_apply_20 (lv_at hl 4 rfl) ?_
    refine z_callV (As := [.int (nI c), .int (nI n), .int h, .int sw]) (rest := []) hF hK (c_X5_refuses l D y m d c n h sw (hI) (by omega) (by omega)) (cwV 4 hts gX5_apply_X5_refuses rfl rfl rfl (by decide +kernel) ⟨Nat.le_of_ble_eq_true rfl, Nat.le_of_ble_eq_true rfl⟩) (z_recv (q := (RX5, TX5, 9)) hK (hP 0 _ rfl) rfl) (zM_of hP) rfl hl.1 rfl (Nat.le_of_ble_eq_true rfl) dX5_apply_22 ⟨Nat.zero_le _, Nat.zero_le _⟩ ?_
    refine lv_if_le (tgt := 32) hx hb dX5_apply_25 (by decide) (fun c25 => ?_) (fun c25 => ?_)
    · refine lv_aload_n hx hb dX5_apply_32 rfl (lv_at hl 0 rfl) ?_
      refine z_callV (As := []) (rest := []) hF hK (c_X5_isFull l D y m d (hI)) (cwV 0 hts gX5_apply_X5_isFull rfl rfl rfl (by decide +kernel) ⟨Nat.le_of_ble_eq_true rfl, Nat.le_of_ble_eq_true rfl⟩) (z_recv (q := (RX5, TX5, 9)) hK (hP 0 _ rfl) rfl) (zM_of hP) rfl hl.1 rfl (Nat.le_of_ble_eq_true rfl) dX5_apply_33 ⟨Nat.zero_le _, Nat.zero_le _⟩ ?_
      refine z_ifeq (tgt := 43) hx hb dX5_apply_36 (by decide) (fun c36 => ?_) (fun c36 => ?_)
      · refine lv_aload_n hx hb dX5_apply_43 rfl (lv_at hl 0 rfl) ?_
        refine w_callV (As := []) (rest := []) hF hK (c_X5_records l D y m d was as tx gt k ty pa rs (by omega)) (cwV 0 hts gX5_apply_X5_records rfl rfl rfl (by decide +kernel) ⟨Nat.le_of_ble_eq_true rfl, Nat.le_of_ble_eq_true rfl⟩) (z_recv (q := (RX5, TX5, 9)) hK (hP 0 _ rfl) rfl) hP hS (fun q h => h) rfl hl.1 rfl (Nat.le_of_ble_eq_true rfl) dX5_apply_44 ⟨Nat.zero_le _, Nat.zero_le _⟩ (fun H1 locs1 hP hz hk hS => ?_)
        have hP : va_P D vwCl (mWs y m d (recW d was k) as tx gt (nI (recN k)) ty pa rs) H1 := hP
        clear hz hk
        refine lv_aload_n hx hb dX5_apply_47 rfl (lv_at hl 0 rfl) ?_
        refine lv_iload_n hx hb dX5_apply_48 rfl (lv_at hl 1 rfl) ?_
        refine lv_iload_n hx hb dX5_apply_49 rfl (lv_at hl 2 rfl) ?_
        refine lv_iload_n hx hb dX5_apply_50 rfl (lv_at hl 3 rfl) ?_
        refine lv_iload hx hb dX5_apply_51 (lv_at hl 4 rfl) ?_
        refine w_callV (As := [.int (nI c), .int (nI n), .int h, .int sw]) (rest := []) hF hK (c_X5_grants l D y m d (recW d was k) as tx gt (recN k) ty pa rs c n h sw (hI) (by omega)) (cwV 4 hts gX5_apply_X5_grants rfl rfl rfl (by decide +kernel) ⟨Nat.le_of_ble_eq_true rfl, Nat.le_of_ble_eq_true rfl⟩) (z_recv (q := (RX5, TX5, 9)) hK (hP 0 _ rfl) rfl) hP hS (fun q h => h) rfl hl.1 rfl (Nat.le_of_ble_eq_true rfl) dX5_apply_53 ⟨Nat.zero_le _, Nat.zero_le _⟩ (fun H2 locs1 hP hz hk hS => ?_)
        have hP : va_P D vwCl (mWs y m (graD d c n h sw) (recW d was k) as tx gt (nI (recN k)) ty pa rs) H2 := hP
        clear hz hk
        exact w_reti hx hb hr hlocks hS (hP) (rfl) dX5_apply_56
      · exact absurd c36 (by rw [hf]; decide)
    · exact absurd (by rw [hr0]; decide) c25
  · exact absurd ha (bf c9)
set_option maxRecDepth 100000 in
set_option maxHeartbeats 4000000 in
theorem c_X5_apply_no (l : Launch) (D : va_G) (y : zY) (m : Nat) (d : Nat → Int32) (was : Nat → Int32) (as : Nat → Int32) (tx : Nat → Int32) (gt : Nat → Int32) (k : Nat) (ty : Int32) (pa : Int32) (rs : Int32) (c : Int32) (n : Int32) (h : Int32) (sw : Int32) (hI : zI d) (hk4 : k ≤ 4) (hno : ¬ (aplB d c n h sw = true ∧ rfsI d (cl c) (cl n) h sw = nI 0 ∧ fulB d = false)) : Met l yX5_apply wsX5_apply ({ frames := 6, cells := 0, slots := 0, locals := 150 }) (zP [.ref m, .int c, .int n, .int h, .int sw] (va_P D vwCl (mWs y m d was as tx gt (nI k) ty pa rs)) D y) (zW (some (.int (eApply d c n h sw))) (va_P D vwCl (mWs y m d was as tx gt (nI k) ty pa rs)) (blk m 6)) 0 0 (blk m 6) := by
  refine z_body (cc := cX5_apply) (maxL := 5) (ret := (some .int)) (la := [(0, .ref m), (1, .int c), (2, .int n), (3, .int h), (4, .int sw)]) (by decide) rfl (Nat.le_of_ble_eq_true rfl) rfl ?_
  intro pg ev s mm below meth c0 ls hx hb hr hF hlocks hΦ hK hl _
  have hts := hF.2.2.2.2
  have hown : s.vm.findClass RX5 = some mm.cls := hF.2.2.2.1
  have hP : va_P D vwCl (mWs y m d was as tx gt (nI k) ty pa rs) s.heap := hΦ
  have hS : va_S (blk m 6) s.heap s.heap [] := va_S.rf
  have hG2 := hI.ng2
  have hC8 := hI.nc8
  have hrk := recN_le hk4
  refine lv_aload_n hx hb dX5_apply_0 rfl (lv_at hl 0 rfl) ?_
  refine lv_iload_n hx hb dX5_apply_1 rfl (lv_at hl 1 rfl) ?_
  refine lv_iload_n hx hb dX5_apply_2 rfl (lv_at hl 2 rfl) ?_
  refine lv_iload_n hx hb dX5_apply_3 rfl (lv_at hl 3 rfl) ?_
  refine lv_iload hx hb dX5_apply_4 (lv_at hl 4 rfl) ?_
  refine z_callV (As := [.int c, .int n, .int h, .int sw]) (rest := []) hF hK (c_X5_isApplication l D y m d c n h sw (hI)) (cwV 4 hts gX5_apply_X5_isApplication rfl rfl rfl (by decide +kernel) ⟨Nat.le_of_ble_eq_true rfl, Nat.le_of_ble_eq_true rfl⟩) (z_recv (q := (RX5, TX5, 9)) hK (hP 0 _ rfl) rfl) (zM_of hP) rfl hl.1 rfl (Nat.le_of_ble_eq_true rfl) dX5_apply_6 ⟨Nat.zero_le _, Nat.zero_le _⟩ ?_
  refine z_ifne (tgt := 16) hx hb dX5_apply_9 (by decide) (fun c9 => ?_) (fun c9 => ?_)
  · obtain ⟨⟨j, hj, rfl⟩, ⟨k, hk, rfl⟩⟩ := apl_nat hI c9
    have ej : cl (nI j) = j := cl_nI (by omega)
    have ek : cl (nI k) = k := cl_nI (by omega)
    refine lv_aload_n hx hb dX5_apply_16 rfl (lv_at hl 0 rfl) ?_
    refine lv_iload_n hx hb dX5_apply_17 rfl (lv_at hl 1 rfl) ?_
    refine lv_iload_n hx hb dX5_apply_18 rfl (lv_at hl 2 rfl) ?_
    refine lv_iload_n hx hb dX5_apply_19 rfl (lv_at hl 3 rfl) ?_
    refine lv_iload hx hb dX5_apply_20 (lv_at hl 4 rfl) ?_
    refine z_callV (As := [.int (nI j), .int (nI k), .int h, .int sw]) (rest := []) hF hK (c_X5_refuses l D y m d j k h sw (hI) (by omega) (by omega)) (cwV 4 hts gX5_apply_X5_refuses rfl rfl rfl (by decide +kernel) ⟨Nat.le_of_ble_eq_true rfl, Nat.le_of_ble_eq_true rfl⟩) (z_recv (q := (RX5, TX5, 9)) hK (hP 0 _ rfl) rfl) (zM_of hP) rfl hl.1 rfl (Nat.le_of_ble_eq_true rfl) dX5_apply_22 ⟨Nat.zero_le _, Nat.zero_le _⟩ ?_
    refine lv_if_le (tgt := 32) hx hb dX5_apply_25 (by decide) (fun c25 => ?_) (fun c25 => ?_)
    · refine lv_aload_n hx hb dX5_apply_32 rfl (lv_at hl 0 rfl) ?_
      refine z_callV (As := []) (rest := []) hF hK (c_X5_isFull l D y m d (hI)) (cwV 0 hts gX5_apply_X5_isFull rfl rfl rfl (by decide +kernel) ⟨Nat.le_of_ble_eq_true rfl, Nat.le_of_ble_eq_true rfl⟩) (z_recv (q := (RX5, TX5, 9)) hK (hP 0 _ rfl) rfl) (zM_of hP) rfl hl.1 rfl (Nat.le_of_ble_eq_true rfl) dX5_apply_33 ⟨Nat.zero_le _, Nat.zero_le _⟩ ?_
      refine z_ifeq (tgt := 43) hx hb dX5_apply_36 (by decide) (fun c36 => ?_) (fun c36 => ?_)
      · exact absurd ⟨c9, by rw [ej, ek]; exact rfs_le c25, c36⟩ hno
      · refine lv_sipush (v := (-1003)) hx hb dX5_apply_39 (by decide) ?_
        exact w_reti hx hb hr hlocks hS (hP) (by unfold eApply; rw [if_pos c9, ej, ek, if_pos (rfs_le c25)]) dX5_apply_42
    · refine lv_sipush (v := (-1002)) hx hb dX5_apply_28 (by decide) ?_
      exact w_reti hx hb hr hlocks hS (hP) (by unfold eApply; rw [if_pos c9, ej, ek, if_neg (fun q => c25 (by rw [q]; decide))]) dX5_apply_31
  · refine lv_sipush (v := (-1001)) hx hb dX5_apply_12 (by decide) ?_
    exact w_reti hx hb hr hlocks hS (hP) (by unfold eApply; rw [if_neg (bf c9)]) dX5_apply_15
theorem i_c_X5_set_0_X5 : ∀ w ∈ wsX50, w ∈ wsX5_set := fun w h => (List.mem_cons_of_mem _ (List.mem_append_right _ h))
set_option maxRecDepth 100000 in
set_option maxHeartbeats 4000000 in
theorem c_X5_set_0 (l : Launch) (D : va_G) (y : zY) (m : Nat) (d : Nat → Int32) (was : Nat → Int32) (as : Nat → Int32) (tx : Nat → Int32) (gt : Nat → Int32) (k : Nat) (ty : Int32) (pa : Int32) (rs : Int32) (v : Int32) (hI : zI d) (hk4 : k ≤ 4) (hv : inB v (nI 50) (nI 150) = true) : Met l yX5_set wsX5_set ({ frames := 3, cells := 0, slots := 0, locals := 67 }) (zP [.ref m, .int (nI 0), .int v] (va_P D vwCl (mWs y m d was as tx gt (nI k) ty pa rs)) D y) (zW (some (.int (caC (upd d 1 v) 30))) (va_P D vwCl (mWs y m (caD (upd d 1 v) 30) (recW d was k) as tx gt (nI (recN k)) ty pa rs)) (blk m 6)) 0 0 (blk m 6) := by
  refine z_body (cc := cX5_set) (maxL := 6) (ret := (some .int)) (la := [(0, .ref m), (1, .int (nI 0)), (2, .int v)]) (by decide) rfl (Nat.le_of_ble_eq_true rfl) rfl ?_
  intro pg ev s mm below meth c0 ls hx hb hr hF hlocks hΦ hK hl _
  have hts := hF.2.2.2.2
  have hown : s.vm.findClass RX5 = some mm.cls := hF.2.2.2.1
  have hP : va_P D vwCl (mWs y m d was as tx gt (nI k) ty pa rs) s.heap := hΦ
  have hS : va_S (blk m 6) s.heap s.heap [] := va_S.rf
  have hG2 := hI.ng2
  have hC8 := hI.nc8
  have hrk := recN_le hk4
  refine lv_iload_n hx hb dX5_set_0 rfl (lv_at hl 1 rfl) ?_
  refine lv_if_ne (tgt := 16) hx hb dX5_set_1 (by decide) (fun c1 => ?_) (fun c1 => ?_)
  · exact absurd (by decide) c1
  · refine lv_iload_n hx hb dX5_set_4 rfl (lv_at hl 2 rfl) ?_
    refine lv_bipush (v := (nI 50)) hx hb dX5_set_5 (by decide) ?_
    refine lv_sipush (v := (nI 150)) hx hb dX5_set_7 (by decide) ?_
    refine z_callS (As := [.int v, .int (nI 50), .int (nI 150)]) (rest := []) hF hK (c_X5_in l D y v (nI 50) (nI 150) ) (va_cwS 3 hts gX5_set_X5_in rfl rfl rfl (by decide +kernel) ⟨Nat.le_of_ble_eq_true rfl, Nat.le_of_ble_eq_true rfl⟩) trivial rfl hl.1 rfl (Nat.le_of_ble_eq_true rfl) dX5_set_10 ⟨Nat.zero_le _, Nat.zero_le _⟩ ?_
    refine lv_goto (tgt := 52) hx hb dX5_set_13 (by decide) ?_
    refine lv_istore_n (lv' := [(3, .int (bI (inB v (nI 50) (nI 150)))), (0, .ref m), (1, .int (nI 0)), (2, .int v)]) hx hb dX5_set_52 rfl hl (by decide) rfl (fun ls hl => ?_)
    refine lv_iload_n hx hb dX5_set_53 rfl (lv_at hl 0 rfl) ?_
    refine z_ifne (tgt := 61) hx hb dX5_set_54 (by decide) (fun c54 => ?_) (fun c54 => ?_)
    · refine lv_aload_n hx hb dX5_set_61 rfl (lv_at hl 1 rfl) ?_
      refine w_callV (As := []) (rest := []) hF hK (c_X5_records l D y m d was as tx gt k ty pa rs (by omega)) (cwV 0 hts gX5_set_X5_records rfl rfl rfl (by decide +kernel) ⟨Nat.le_of_ble_eq_true rfl, Nat.le_of_ble_eq_true rfl⟩) (z_recv (q := (RX5, TX5, 9)) hK (hP 0 _ rfl) rfl) hP hS (fun q h => h) rfl hl.1 rfl (Nat.le_of_ble_eq_true rfl) dX5_set_62 ⟨Nat.zero_le _, Nat.zero_le _⟩ (fun H1 locs1 hP hz hk hS => ?_)
      have hP : va_P D vwCl (mWs y m d (recW d was k) as tx gt (nI (recN k)) ty pa rs) H1 := hP
      clear hz hk
      refine lv_aload_n hx hb dX5_set_65 rfl (lv_at hl 1 rfl) ?_
      refine z_get (fs := [.ref (m + 1), .ref (m + 2), .int (nI (recN k)), .ref (m + 3), .ref (m + 4), .int ty, .int pa, .int rs, .ref (m + 5)]) (ref := "CranePermitsModel") (C := RX5) (T := TX5) (N := 9) (ci := 5) (v := .ref (m + 1)) hx hb hts i_c_X5_set_0_X5 hown hK (hP 0 _ rfl) 0 (by decide) rfl (hts (.fieldLink RX5 7 "CranePermitsModel" "d" "[I") (List.mem_of_getElem? (i := 1) rfl)) rfl rfl dX5_set_66 ?_
      refine lv_iconst (v := (nI 1)) hx hb dX5_set_69 (by decide) ?_
      refine lv_iload_n hx hb dX5_set_70 rfl (lv_at hl 2 rfl) ?_
      refine z_iadd hx hb dX5_set_71 ?_
      refine lv_iload_n hx hb dX5_set_72 rfl (lv_at hl 3 rfl) ?_
      refine y_iast (a := (m + 1)) (f := d) (i := (1 + 0)) hx hb hK (hP 1 _ rfl) (by omega) (by decide) dX5_set_73 (fun H2 hU hV => ?_)
      have hS := hS.upd (x := (1 + 0)) hU (blk_in (by omega) (by omega))
      have hP : va_P D vwCl (mWs y m (upd d (1 + 0) v) (recW d was k) as tx gt (nI (recN k)) ty pa rs) H2 := hP.upd (q0 := 1) mWs_D rfl hU hV
      clear hU hV
      refine lv_iload_n hx hb dX5_set_74 rfl (lv_at hl 2 rfl) ?_
      refine lv_iconst (v := (nI 1)) hx hb dX5_set_75 (by decide) ?_
      refine z_ne (tgt := 86) hx hb (by omega) (by omega) dX5_set_76 (by decide) (fun c76 => ?_) (fun c76 => ?_)
      · refine lv_iconst (v := (nI 0)) hx hb dX5_set_86 (by decide) ?_
        refine lv_istore (lv' := [(4, .int (nI 0)), (3, .int (bI (inB v (nI 50) (nI 150)))), (0, .ref m), (1, .int (nI 0)), (2, .int v)]) hx hb dX5_set_87 hl (by decide) rfl (fun ls hl => ?_)
        refine lv_iconst (v := (nI 0)) hx hb dX5_set_89 (by decide) ?_
        refine lv_istore (lv' := [(5, .int (nI 0)), (4, .int (nI 0)), (3, .int (bI (inB v (nI 50) (nI 150)))), (0, .ref m), (1, .int (nI 0)), (2, .int v)]) hx hb dX5_set_90 hl (by decide) rfl (fun ls hl => ?_)
        have hl := lv_repl (l' := [(5, .int (nI 0)), (4, .int (caC (upd d (1 + 0) v) 0)), (3, .int (bI (inB v (nI 50) (nI 150)))), (0, .ref m), (1, .int (nI 0)), (2, .int v)]) hl 1 rfl (congrArg Value.int (show (nI 0) = (caC (upd d (1 + 0) v) 0) from rfl)) rfl
        refine z_loopW (S := Nat) (nL := 6) (fun (j : Nat) => 30 - j) (fun (j : Nat) => [(5, .int (nI j)), (4, .int (caC (upd d (1 + 0) v) j)), (0, .ref m), (1, .int (nI 0)), (2, .int v)]) (fun (j : Nat) (H : Heap) (locs : List Loc) => va_P D vwCl (mWs y m (caD (upd d (1 + 0) v) j) (recW d was k) as tx gt (nI (recN k)) ty pa rs) H ∧ va_S (blk m 6) s.heap H locs ∧ (j ≤ 30)) 0 ⟨hP, hS, by omega⟩ (lv_sub hl [0, 1, 3, 4, 5] rfl) ?_
        clear hl hP hS
        rintro j H3 locs ls ⟨hP, hS, hI_92⟩ hl ih_92
        have hi := hI_92
        have hz := (ca_I (hI.low (1 + 0) (by omega) v).1 j).1
        refine lv_iload hx hb dX5_set_92 (lv_at hl 0 rfl) ?_
        refine lv_bipush (v := (nI 30)) hx hb dX5_set_94 (by decide) ?_
        refine z_ge (tgt := 120) hx hb (by omega) (by omega) dX5_set_96 (by decide) (fun c96 => ?_) (fun c96 => ?_)
        · refine lv_iload hx hb dX5_set_120 (lv_at hl 1 rfl) ?_
          exact w_reti hx hb hr hlocks hS (by rw [show j = 30 by omega] at hP; exact hP) (by rw [show j = 30 by omega]) dX5_set_122
        · refine lv_iload_n hx hb dX5_set_99 rfl (lv_at hl 3 rfl) ?_
          refine lv_if_ne (tgt := 120) hx hb dX5_set_100 (by decide) (fun c100 => ?_) (fun c100 => ?_)
          · exact absurd (by decide) c100
          · refine lv_iload hx hb dX5_set_103 (lv_at hl 1 rfl) ?_
            refine lv_aload_n hx hb dX5_set_105 rfl (lv_at hl 2 rfl) ?_
            refine lv_iload hx hb dX5_set_106 (lv_at hl 0 rfl) ?_
            refine w_callV (As := [.int (nI j)]) (rest := [.int (caC (upd d (1 + 0) v) j)]) hF hK (c_X5_calms l D y m (caD (upd d (1 + 0) v) j) (recW d was k) as tx gt (recN k) ty pa rs j (hz) (by omega) (by omega)) (cwV 1 hts gX5_set_X5_calms rfl rfl rfl (by decide +kernel) ⟨Nat.le_of_ble_eq_true rfl, Nat.le_of_ble_eq_true rfl⟩) (z_recv (q := (RX5, TX5, 9)) hK (hP 0 _ rfl) rfl) hP hS (fun q h => h) rfl hl.1 rfl (Nat.le_of_ble_eq_true rfl) dX5_set_108 ⟨Nat.zero_le _, Nat.zero_le _⟩ (fun H4 locs1 hP hz hk hS => ?_)
            have hP : va_P D vwCl (mWs y m (calD (caD (upd d (1 + 0) v) j) j) (recW d was k) as tx gt (nI (recN k)) ty pa rs) H4 := hP
            clear hz hk
            refine lv_iadd hx hb dX5_set_111 ?_
            refine lv_istore (lv' := [(4, .int ((caC (upd d (1 + 0) v) j) + (calR (caD (upd d (1 + 0) v) j) j))), (5, .int (nI j)), (0, .ref m), (1, .int (nI 0)), (2, .int v)]) hx hb dX5_set_112 hl (by decide) rfl (fun ls hl => ?_)
            refine lv_iinc (v := (nI (j + 1))) (lv' := [(5, .int (nI (j + 1))), (4, .int ((caC (upd d (1 + 0) v) j) + (calR (caD (upd d (1 + 0) v) j) j))), (0, .ref m), (1, .int (nI 0)), (2, .int v)]) hx hb dX5_set_114 hl (k := 1) rfl (in1 _) (by decide) rfl (fun ls hl => ?_)
            refine lv_goto (tgt := 92) hx hb dX5_set_117 (by decide) ?_
            have hl := lv_repl (l' := [(5, .int (nI (j + 1))), (4, .int (caC (upd d (1 + 0) v) (j + 1))), (0, .ref m), (1, .int (nI 0)), (2, .int v)]) hl 1 rfl (congrArg Value.int (show ((caC (upd d (1 + 0) v) j) + (calR (caD (upd d (1 + 0) v) j) j)) = (caC (upd d (1 + 0) v) (j + 1)) from rfl)) rfl
            exact ih_92 (j + 1) _ _ _ (by omega) ⟨hP, hS, by omega⟩ (lv_sub hl [0, 1, 2, 3, 4] rfl)
      · exact absurd c76 (by decide)
    · exact absurd hv (bf c54)
theorem i_c_X5_set_1_X5 : ∀ w ∈ wsX50, w ∈ wsX5_set := fun w h => (List.mem_cons_of_mem _ (List.mem_append_right _ h))
set_option maxRecDepth 100000 in
set_option maxHeartbeats 4000000 in
theorem c_X5_set_1 (l : Launch) (D : va_G) (y : zY) (m : Nat) (d : Nat → Int32) (was : Nat → Int32) (as : Nat → Int32) (tx : Nat → Int32) (gt : Nat → Int32) (k : Nat) (ty : Int32) (pa : Int32) (rs : Int32) (v : Int32) (hI : zI d) (hk4 : k ≤ 4) (hv : inB v (nI 0) (nI 200) = true) : Met l yX5_set wsX5_set ({ frames := 5, cells := 0, slots := 0, locals := 115 }) (zP [.ref m, .int (nI 1), .int v] (va_P D vwCl (mWs y m d was as tx gt (nI k) ty pa rs)) D y) (zW (some (.int (saC (upd d 2 v) 120))) (va_P D vwCl (mWs y m (saD (upd d 2 v) 120) (recW d was k) as tx gt (nI (recN k)) ty pa rs)) (blk m 6)) 0 0 (blk m 6) := by
  refine z_body (cc := cX5_set) (maxL := 6) (ret := (some .int)) (la := [(0, .ref m), (1, .int (nI 1)), (2, .int v)]) (by decide) rfl (Nat.le_of_ble_eq_true rfl) rfl ?_
  intro pg ev s mm below meth c0 ls hx hb hr hF hlocks hΦ hK hl _
  have hts := hF.2.2.2.2
  have hown : s.vm.findClass RX5 = some mm.cls := hF.2.2.2.1
  have hP : va_P D vwCl (mWs y m d was as tx gt (nI k) ty pa rs) s.heap := hΦ
  have hS : va_S (blk m 6) s.heap s.heap [] := va_S.rf
  have hG2 := hI.ng2
  have hC8 := hI.nc8
  have hrk := recN_le hk4
  refine lv_iload_n hx hb dX5_set_0 rfl (lv_at hl 1 rfl) ?_
  refine lv_if_ne (tgt := 16) hx hb dX5_set_1 (by decide) (fun c1 => ?_) (fun c1 => ?_)
  · refine lv_iload_n hx hb dX5_set_16 rfl (lv_at hl 1 rfl) ?_
    refine lv_iconst (v := (nI 1)) hx hb dX5_set_17 (by decide) ?_
    refine z_ne (tgt := 32) hx hb (by omega) (by omega) dX5_set_18 (by decide) (fun c18 => ?_) (fun c18 => ?_)
    · exact absurd rfl c18
    · refine lv_iload_n hx hb dX5_set_21 rfl (lv_at hl 2 rfl) ?_
      refine lv_iconst (v := (nI 0)) hx hb dX5_set_22 (by decide) ?_
      refine lv_sipush (v := (nI 200)) hx hb dX5_set_23 (by decide) ?_
      refine z_callS (As := [.int v, .int (nI 0), .int (nI 200)]) (rest := []) hF hK (c_X5_in l D y v (nI 0) (nI 200) ) (va_cwS 3 hts gX5_set_X5_in rfl rfl rfl (by decide +kernel) ⟨Nat.le_of_ble_eq_true rfl, Nat.le_of_ble_eq_true rfl⟩) trivial rfl hl.1 rfl (Nat.le_of_ble_eq_true rfl) dX5_set_26 ⟨Nat.zero_le _, Nat.zero_le _⟩ ?_
      refine lv_goto (tgt := 52) hx hb dX5_set_29 (by decide) ?_
      refine lv_istore_n (lv' := [(3, .int (bI (inB v (nI 0) (nI 200)))), (0, .ref m), (1, .int (nI 1)), (2, .int v)]) hx hb dX5_set_52 rfl hl (by decide) rfl (fun ls hl => ?_)
      refine lv_iload_n hx hb dX5_set_53 rfl (lv_at hl 0 rfl) ?_
      refine z_ifne (tgt := 61) hx hb dX5_set_54 (by decide) (fun c54 => ?_) (fun c54 => ?_)
      · refine lv_aload_n hx hb dX5_set_61 rfl (lv_at hl 1 rfl) ?_
        refine w_callV (As := []) (rest := []) hF hK (c_X5_records l D y m d was as tx gt k ty pa rs (by omega)) (cwV 0 hts gX5_set_X5_records rfl rfl rfl (by decide +kernel) ⟨Nat.le_of_ble_eq_true rfl, Nat.le_of_ble_eq_true rfl⟩) (z_recv (q := (RX5, TX5, 9)) hK (hP 0 _ rfl) rfl) hP hS (fun q h => h) rfl hl.1 rfl (Nat.le_of_ble_eq_true rfl) dX5_set_62 ⟨Nat.zero_le _, Nat.zero_le _⟩ (fun H1 locs1 hP hz hk hS => ?_)
        have hP : va_P D vwCl (mWs y m d (recW d was k) as tx gt (nI (recN k)) ty pa rs) H1 := hP
        clear hz hk
        refine lv_aload_n hx hb dX5_set_65 rfl (lv_at hl 1 rfl) ?_
        refine z_get (fs := [.ref (m + 1), .ref (m + 2), .int (nI (recN k)), .ref (m + 3), .ref (m + 4), .int ty, .int pa, .int rs, .ref (m + 5)]) (ref := "CranePermitsModel") (C := RX5) (T := TX5) (N := 9) (ci := 5) (v := .ref (m + 1)) hx hb hts i_c_X5_set_1_X5 hown hK (hP 0 _ rfl) 0 (by decide) rfl (hts (.fieldLink RX5 7 "CranePermitsModel" "d" "[I") (List.mem_of_getElem? (i := 1) rfl)) rfl rfl dX5_set_66 ?_
        refine lv_iconst (v := (nI 1)) hx hb dX5_set_69 (by decide) ?_
        refine lv_iload_n hx hb dX5_set_70 rfl (lv_at hl 2 rfl) ?_
        refine z_iadd hx hb dX5_set_71 ?_
        refine lv_iload_n hx hb dX5_set_72 rfl (lv_at hl 3 rfl) ?_
        refine y_iast (a := (m + 1)) (f := d) (i := (1 + 1)) hx hb hK (hP 1 _ rfl) (by omega) (by decide) dX5_set_73 (fun H2 hU hV => ?_)
        have hS := hS.upd (x := (1 + 1)) hU (blk_in (by omega) (by omega))
        have hP : va_P D vwCl (mWs y m (upd d (1 + 1) v) (recW d was k) as tx gt (nI (recN k)) ty pa rs) H2 := hP.upd (q0 := 1) mWs_D rfl hU hV
        clear hU hV
        refine lv_iload_n hx hb dX5_set_74 rfl (lv_at hl 2 rfl) ?_
        refine lv_iconst (v := (nI 1)) hx hb dX5_set_75 (by decide) ?_
        refine z_ne (tgt := 86) hx hb (by omega) (by omega) dX5_set_76 (by decide) (fun c76 => ?_) (fun c76 => ?_)
        · exact absurd rfl c76
        · refine lv_aload_n hx hb dX5_set_79 rfl (lv_at hl 1 rfl) ?_
          refine w_callV (As := []) (rest := []) hF hK (c_X5_savesAll l D y m (upd d (1 + 1) v) (recW d was k) as tx gt (recN k) ty pa rs ((hI.low (1 + 1) (by omega) v).1) (by omega)) (cwV 0 hts gX5_set_X5_savesAll rfl rfl rfl (by decide +kernel) ⟨Nat.le_of_ble_eq_true rfl, Nat.le_of_ble_eq_true rfl⟩) (z_recv (q := (RX5, TX5, 9)) hK (hP 0 _ rfl) rfl) hP hS (fun q h => h) rfl hl.1 rfl (Nat.le_of_ble_eq_true rfl) dX5_set_80 ⟨Nat.zero_le _, Nat.zero_le _⟩ (fun H3 locs1 hP hz hk hS => ?_)
          have hP : va_P D vwCl (mWs y m (saD (upd d (1 + 1) v) 120) (recW d was k) as tx gt (nI (recN k)) ty pa rs) H3 := hP
          clear hz hk
          refine lv_goto (tgt := 87) hx hb dX5_set_83 (by decide) ?_
          refine lv_istore (lv' := [(4, .int (saC (upd d (1 + 1) v) 120)), (3, .int (bI (inB v (nI 0) (nI 200)))), (0, .ref m), (1, .int (nI 1)), (2, .int v)]) hx hb dX5_set_87 hl (by decide) rfl (fun ls hl => ?_)
          refine lv_iconst (v := (nI 0)) hx hb dX5_set_89 (by decide) ?_
          refine lv_istore (lv' := [(5, .int (nI 0)), (4, .int (saC (upd d (1 + 1) v) 120)), (3, .int (bI (inB v (nI 0) (nI 200)))), (0, .ref m), (1, .int (nI 1)), (2, .int v)]) hx hb dX5_set_90 hl (by decide) rfl (fun ls hl => ?_)
          refine lv_iload hx hb dX5_set_92 (lv_at hl 0 rfl) ?_
          refine lv_bipush (v := (nI 30)) hx hb dX5_set_94 (by decide) ?_
          refine z_ge (tgt := 120) hx hb (by omega) (by omega) dX5_set_96 (by decide) (fun c96 => ?_) (fun c96 => ?_)
          · exact absurd c96 (by omega)
          · refine lv_iload_n hx hb dX5_set_99 rfl (lv_at hl 4 rfl) ?_
            refine lv_if_ne (tgt := 120) hx hb dX5_set_100 (by decide) (fun c100 => ?_) (fun c100 => ?_)
            · refine lv_iload hx hb dX5_set_120 (lv_at hl 1 rfl) ?_
              exact w_reti hx hb hr hlocks hS (hP) (rfl) dX5_set_122
            · exact absurd c100 (by decide)
      · exact absurd hv (bf c54)
  · exact absurd c1 (by decide)
theorem i_c_X5_set_2_X5 : ∀ w ∈ wsX50, w ∈ wsX5_set := fun w h => (List.mem_cons_of_mem _ (List.mem_append_right _ h))
set_option maxRecDepth 100000 in
set_option maxHeartbeats 4000000 in
theorem c_X5_set_2 (l : Launch) (D : va_G) (y : zY) (m : Nat) (d : Nat → Int32) (was : Nat → Int32) (as : Nat → Int32) (tx : Nat → Int32) (gt : Nat → Int32) (k : Nat) (ty : Int32) (pa : Int32) (rs : Int32) (v : Int32) (hI : zI d) (hk4 : k ≤ 4) (hv : inB v (nI 0) (nI 50) = true) : Met l yX5_set wsX5_set ({ frames := 1, cells := 0, slots := 0, locals := 22 }) (zP [.ref m, .int (nI 2), .int v] (va_P D vwCl (mWs y m d was as tx gt (nI k) ty pa rs)) D y) (zW (some (.int (nI 0))) (va_P D vwCl (mWs y m (upd d 3 v) (recW d was k) as tx gt (nI (recN k)) ty pa rs)) (blk m 6)) 0 0 (blk m 6) := by
  refine z_body (cc := cX5_set) (maxL := 6) (ret := (some .int)) (la := [(0, .ref m), (1, .int (nI 2)), (2, .int v)]) (by decide) rfl (Nat.le_of_ble_eq_true rfl) rfl ?_
  intro pg ev s mm below meth c0 ls hx hb hr hF hlocks hΦ hK hl _
  have hts := hF.2.2.2.2
  have hown : s.vm.findClass RX5 = some mm.cls := hF.2.2.2.1
  have hP : va_P D vwCl (mWs y m d was as tx gt (nI k) ty pa rs) s.heap := hΦ
  have hS : va_S (blk m 6) s.heap s.heap [] := va_S.rf
  have hG2 := hI.ng2
  have hC8 := hI.nc8
  have hrk := recN_le hk4
  refine lv_iload_n hx hb dX5_set_0 rfl (lv_at hl 1 rfl) ?_
  refine lv_if_ne (tgt := 16) hx hb dX5_set_1 (by decide) (fun c1 => ?_) (fun c1 => ?_)
  · refine lv_iload_n hx hb dX5_set_16 rfl (lv_at hl 1 rfl) ?_
    refine lv_iconst (v := (nI 1)) hx hb dX5_set_17 (by decide) ?_
    refine z_ne (tgt := 32) hx hb (by omega) (by omega) dX5_set_18 (by decide) (fun c18 => ?_) (fun c18 => ?_)
    · refine lv_iload_n hx hb dX5_set_32 rfl (lv_at hl 1 rfl) ?_
      refine lv_iconst (v := (nI 2)) hx hb dX5_set_33 (by decide) ?_
      refine z_ne (tgt := 51) hx hb (by omega) (by omega) dX5_set_34 (by decide) (fun c34 => ?_) (fun c34 => ?_)
      · first | exact absurd rfl c34 | exact absurd hv (bf c44)
      · refine lv_iload_n hx hb dX5_set_37 rfl (lv_at hl 2 rfl) ?_
        refine lv_iconst (v := (nI 0)) hx hb dX5_set_38 (by decide) ?_
        refine lv_bipush (v := (nI 50)) hx hb dX5_set_39 (by decide) ?_
        refine z_callS (As := [.int v, .int (nI 0), .int (nI 50)]) (rest := []) hF hK (c_X5_in l D y v (nI 0) (nI 50) ) (va_cwS 3 hts gX5_set_X5_in rfl rfl rfl (by decide +kernel) ⟨Nat.le_of_ble_eq_true rfl, Nat.le_of_ble_eq_true rfl⟩) trivial rfl hl.1 rfl (Nat.le_of_ble_eq_true rfl) dX5_set_41 ⟨Nat.zero_le _, Nat.zero_le _⟩ ?_
        refine z_ifeq (tgt := 51) hx hb dX5_set_44 (by decide) (fun c44 => ?_) (fun c44 => ?_)
        · first | exact absurd rfl c34 | exact absurd hv (bf c44)
        · refine lv_iconst (v := (nI 1)) hx hb dX5_set_47 (by decide) ?_
          refine lv_goto (tgt := 52) hx hb dX5_set_48 (by decide) ?_
          refine lv_istore_n (lv' := [(3, .int (nI 1)), (0, .ref m), (1, .int (nI 2)), (2, .int v)]) hx hb dX5_set_52 rfl hl (by decide) rfl (fun ls hl => ?_)
          refine lv_iload_n hx hb dX5_set_53 rfl (lv_at hl 0 rfl) ?_
          refine lv_if_ne (tgt := 61) hx hb dX5_set_54 (by decide) (fun c54 => ?_) (fun c54 => ?_)
          · refine lv_aload_n hx hb dX5_set_61 rfl (lv_at hl 1 rfl) ?_
            refine w_callV (As := []) (rest := []) hF hK (c_X5_records l D y m d was as tx gt k ty pa rs (by omega)) (cwV 0 hts gX5_set_X5_records rfl rfl rfl (by decide +kernel) ⟨Nat.le_of_ble_eq_true rfl, Nat.le_of_ble_eq_true rfl⟩) (z_recv (q := (RX5, TX5, 9)) hK (hP 0 _ rfl) rfl) hP hS (fun q h => h) rfl hl.1 rfl (Nat.le_of_ble_eq_true rfl) dX5_set_62 ⟨Nat.zero_le _, Nat.zero_le _⟩ (fun H1 locs1 hP hz hk hS => ?_)
            have hP : va_P D vwCl (mWs y m d (recW d was k) as tx gt (nI (recN k)) ty pa rs) H1 := hP
            clear hz hk
            refine lv_aload_n hx hb dX5_set_65 rfl (lv_at hl 1 rfl) ?_
            refine z_get (fs := [.ref (m + 1), .ref (m + 2), .int (nI (recN k)), .ref (m + 3), .ref (m + 4), .int ty, .int pa, .int rs, .ref (m + 5)]) (ref := "CranePermitsModel") (C := RX5) (T := TX5) (N := 9) (ci := 5) (v := .ref (m + 1)) hx hb hts i_c_X5_set_2_X5 hown hK (hP 0 _ rfl) 0 (by decide) rfl (hts (.fieldLink RX5 7 "CranePermitsModel" "d" "[I") (List.mem_of_getElem? (i := 1) rfl)) rfl rfl dX5_set_66 ?_
            refine lv_iconst (v := (nI 1)) hx hb dX5_set_69 (by decide) ?_
            refine lv_iload_n hx hb dX5_set_70 rfl (lv_at hl 2 rfl) ?_
            refine z_iadd hx hb dX5_set_71 ?_
            refine lv_iload_n hx hb dX5_set_72 rfl (lv_at hl 3 rfl) ?_
            refine y_iast (a := (m + 1)) (f := d) (i := (1 + 2)) hx hb hK (hP 1 _ rfl) (by omega) (by decide) dX5_set_73 (fun H2 hU hV => ?_)
            have hS := hS.upd (x := (1 + 2)) hU (blk_in (by omega) (by omega))
            have hP : va_P D vwCl (mWs y m (upd d (1 + 2) v) (recW d was k) as tx gt (nI (recN k)) ty pa rs) H2 := hP.upd (q0 := 1) mWs_D rfl hU hV
            clear hU hV
            refine lv_iload_n hx hb dX5_set_74 rfl (lv_at hl 2 rfl) ?_
            refine lv_iconst (v := (nI 1)) hx hb dX5_set_75 (by decide) ?_
            refine z_ne (tgt := 86) hx hb (by omega) (by omega) dX5_set_76 (by decide) (fun c76 => ?_) (fun c76 => ?_)
            · refine lv_iconst (v := (nI 0)) hx hb dX5_set_86 (by decide) ?_
              refine lv_istore (lv' := [(4, .int (nI 0)), (3, .int (nI 1)), (0, .ref m), (1, .int (nI 2)), (2, .int v)]) hx hb dX5_set_87 hl (by decide) rfl (fun ls hl => ?_)
              refine lv_iconst (v := (nI 0)) hx hb dX5_set_89 (by decide) ?_
              refine lv_istore (lv' := [(5, .int (nI 0)), (4, .int (nI 0)), (3, .int (nI 1)), (0, .ref m), (1, .int (nI 2)), (2, .int v)]) hx hb dX5_set_90 hl (by decide) rfl (fun ls hl => ?_)
              refine lv_iload hx hb dX5_set_92 (lv_at hl 0 rfl) ?_
              refine lv_bipush (v := (nI 30)) hx hb dX5_set_94 (by decide) ?_
              refine z_ge (tgt := 120) hx hb (by omega) (by omega) dX5_set_96 (by decide) (fun c96 => ?_) (fun c96 => ?_)
              · exact absurd c96 (by omega)
              · refine lv_iload_n hx hb dX5_set_99 rfl (lv_at hl 4 rfl) ?_
                refine lv_if_ne (tgt := 120) hx hb dX5_set_100 (by decide) (fun c100 => ?_) (fun c100 => ?_)
                · refine lv_iload hx hb dX5_set_120 (lv_at hl 1 rfl) ?_
                  exact w_reti hx hb hr hlocks hS (hP) (rfl) dX5_set_122
                · exact absurd c100 (by decide)
            · exact absurd c76 (by decide)
          · exact absurd c54 (by decide)
    · exact absurd c18 (by decide)
  · exact absurd c1 (by decide)
set_option maxRecDepth 100000 in
set_option maxHeartbeats 4000000 in
theorem c_X5_set_no (l : Launch) (D : va_G) (y : zY) (m : Nat) (d : Nat → Int32) (was : Nat → Int32) (as : Nat → Int32) (tx : Nat → Int32) (gt : Nat → Int32) (k : Nat) (ty : Int32) (pa : Int32) (rs : Int32) (w : Int32) (v : Int32) (hI : zI d) (hk4 : k ≤ 4) (hno : okSet w v = false) : Met l yX5_set wsX5_set ({ frames := 1, cells := 0, slots := 0, locals := 22 }) (zP [.ref m, .int w, .int v] (va_P D vwCl (mWs y m d was as tx gt (nI k) ty pa rs)) D y) (zW (some (.int (-1001))) (va_P D vwCl (mWs y m d was as tx gt (nI k) ty pa rs)) (blk m 6)) 0 0 (blk m 6) := by
  refine z_body (cc := cX5_set) (maxL := 6) (ret := (some .int)) (la := [(0, .ref m), (1, .int w), (2, .int v)]) (by decide) rfl (Nat.le_of_ble_eq_true rfl) rfl ?_
  intro pg ev s mm below meth c0 ls hx hb hr hF hlocks hΦ hK hl _
  have hts := hF.2.2.2.2
  have hown : s.vm.findClass RX5 = some mm.cls := hF.2.2.2.1
  have hP : va_P D vwCl (mWs y m d was as tx gt (nI k) ty pa rs) s.heap := hΦ
  have hS : va_S (blk m 6) s.heap s.heap [] := va_S.rf
  have hG2 := hI.ng2
  have hC8 := hI.nc8
  have hrk := recN_le hk4
  refine lv_iload_n hx hb dX5_set_0 rfl (lv_at hl 1 rfl) ?_
  refine lv_if_ne (tgt := 16) hx hb dX5_set_1 (by decide) (fun c1 => ?_) (fun c1 => ?_)
  · refine lv_iload_n hx hb dX5_set_16 rfl (lv_at hl 1 rfl) ?_
    refine lv_iconst (v := (nI 1)) hx hb dX5_set_17 (by decide) ?_
    refine lv_icmp_ne (tgt := 32) hx hb dX5_set_18 (by decide) (fun c18 => ?_) (fun c18 => ?_)
    · refine lv_iload_n hx hb dX5_set_32 rfl (lv_at hl 1 rfl) ?_
      refine lv_iconst (v := (nI 2)) hx hb dX5_set_33 (by decide) ?_
      refine lv_icmp_ne (tgt := 51) hx hb dX5_set_34 (by decide) (fun c34 => ?_) (fun c34 => ?_)
      · refine lv_iconst (v := (nI 0)) hx hb dX5_set_51 (by decide) ?_
        refine lv_istore_n (lv' := [(3, .int (nI 0)), (0, .ref m), (1, .int w), (2, .int v)]) hx hb dX5_set_52 rfl hl (by decide) rfl (fun ls hl => ?_)
        refine lv_iload_n hx hb dX5_set_53 rfl (lv_at hl 0 rfl) ?_
        refine lv_if_ne (tgt := 61) hx hb dX5_set_54 (by decide) (fun c54 => ?_) (fun c54 => ?_)
        · first | exact absurd (show okSet w v = true by unfold okSet; rw [if_pos c1]; exact c54) (bf hno) | exact absurd (show okSet w v = true by unfold okSet; rw [if_neg c1, if_pos c18]; exact c54) (bf hno) | exact absurd (show okSet w v = true by unfold okSet; rw [if_neg c1, if_neg c18, if_pos c34]; exact c44) (bf hno) | exact absurd (by decide) c54
        · refine lv_sipush (v := (-1001)) hx hb dX5_set_57 (by decide) ?_
          exact w_reti hx hb hr hlocks hS (hP) (rfl) dX5_set_60
      · refine lv_iload_n hx hb dX5_set_37 rfl (lv_at hl 2 rfl) ?_
        refine lv_iconst (v := (nI 0)) hx hb dX5_set_38 (by decide) ?_
        refine lv_bipush (v := (nI 50)) hx hb dX5_set_39 (by decide) ?_
        refine z_callS (As := [.int v, .int (nI 0), .int (nI 50)]) (rest := []) hF hK (c_X5_in l D y v (nI 0) (nI 50) ) (va_cwS 3 hts gX5_set_X5_in rfl rfl rfl (by decide +kernel) ⟨Nat.le_of_ble_eq_true rfl, Nat.le_of_ble_eq_true rfl⟩) trivial rfl hl.1 rfl (Nat.le_of_ble_eq_true rfl) dX5_set_41 ⟨Nat.zero_le _, Nat.zero_le _⟩ ?_
        refine z_ifeq (tgt := 51) hx hb dX5_set_44 (by decide) (fun c44 => ?_) (fun c44 => ?_)
        · refine lv_iconst (v := (nI 0)) hx hb dX5_set_51 (by decide) ?_
          refine lv_istore_n (lv' := [(3, .int (nI 0)), (0, .ref m), (1, .int w), (2, .int v)]) hx hb dX5_set_52 rfl hl (by decide) rfl (fun ls hl => ?_)
          refine lv_iload_n hx hb dX5_set_53 rfl (lv_at hl 0 rfl) ?_
          refine lv_if_ne (tgt := 61) hx hb dX5_set_54 (by decide) (fun c54 => ?_) (fun c54 => ?_)
          · first | exact absurd (show okSet w v = true by unfold okSet; rw [if_pos c1]; exact c54) (bf hno) | exact absurd (show okSet w v = true by unfold okSet; rw [if_neg c1, if_pos c18]; exact c54) (bf hno) | exact absurd (show okSet w v = true by unfold okSet; rw [if_neg c1, if_neg c18, if_pos c34]; exact c44) (bf hno) | exact absurd (by decide) c54
          · refine lv_sipush (v := (-1001)) hx hb dX5_set_57 (by decide) ?_
            exact w_reti hx hb hr hlocks hS (hP) (rfl) dX5_set_60
        · refine lv_iconst (v := (nI 1)) hx hb dX5_set_47 (by decide) ?_
          refine lv_goto (tgt := 52) hx hb dX5_set_48 (by decide) ?_
          refine lv_istore_n (lv' := [(3, .int (nI 1)), (0, .ref m), (1, .int w), (2, .int v)]) hx hb dX5_set_52 rfl hl (by decide) rfl (fun ls hl => ?_)
          refine lv_iload_n hx hb dX5_set_53 rfl (lv_at hl 0 rfl) ?_
          refine lv_if_ne (tgt := 61) hx hb dX5_set_54 (by decide) (fun c54 => ?_) (fun c54 => ?_)
          · first | exact absurd (show okSet w v = true by unfold okSet; rw [if_pos c1]; exact c54) (bf hno) | exact absurd (show okSet w v = true by unfold okSet; rw [if_neg c1, if_pos c18]; exact c54) (bf hno) | exact absurd (show okSet w v = true by unfold okSet; rw [if_neg c1, if_neg c18, if_pos c34]; exact c44) (bf hno) | exact absurd (by decide) c54
          · refine lv_sipush (v := (-1001)) hx hb dX5_set_57 (by decide) ?_
            exact w_reti hx hb hr hlocks hS (hP) (rfl) dX5_set_60
    · refine lv_iload_n hx hb dX5_set_21 rfl (lv_at hl 2 rfl) ?_
      refine lv_iconst (v := (nI 0)) hx hb dX5_set_22 (by decide) ?_
      refine lv_sipush (v := (nI 200)) hx hb dX5_set_23 (by decide) ?_
      refine z_callS (As := [.int v, .int (nI 0), .int (nI 200)]) (rest := []) hF hK (c_X5_in l D y v (nI 0) (nI 200) ) (va_cwS 3 hts gX5_set_X5_in rfl rfl rfl (by decide +kernel) ⟨Nat.le_of_ble_eq_true rfl, Nat.le_of_ble_eq_true rfl⟩) trivial rfl hl.1 rfl (Nat.le_of_ble_eq_true rfl) dX5_set_26 ⟨Nat.zero_le _, Nat.zero_le _⟩ ?_
      refine lv_goto (tgt := 52) hx hb dX5_set_29 (by decide) ?_
      refine lv_istore_n (lv' := [(3, .int (bI (inB v (nI 0) (nI 200)))), (0, .ref m), (1, .int w), (2, .int v)]) hx hb dX5_set_52 rfl hl (by decide) rfl (fun ls hl => ?_)
      refine lv_iload_n hx hb dX5_set_53 rfl (lv_at hl 0 rfl) ?_
      refine z_ifne (tgt := 61) hx hb dX5_set_54 (by decide) (fun c54 => ?_) (fun c54 => ?_)
      · first | exact absurd (show okSet w v = true by unfold okSet; rw [if_pos c1]; exact c54) (bf hno) | exact absurd (show okSet w v = true by unfold okSet; rw [if_neg c1, if_pos c18]; exact c54) (bf hno) | exact absurd (show okSet w v = true by unfold okSet; rw [if_neg c1, if_neg c18, if_pos c34]; exact c44) (bf hno) | exact absurd (by decide) c54
      · refine lv_sipush (v := (-1001)) hx hb dX5_set_57 (by decide) ?_
        exact w_reti hx hb hr hlocks hS (hP) (rfl) dX5_set_60
  · refine lv_iload_n hx hb dX5_set_4 rfl (lv_at hl 2 rfl) ?_
    refine lv_bipush (v := (nI 50)) hx hb dX5_set_5 (by decide) ?_
    refine lv_sipush (v := (nI 150)) hx hb dX5_set_7 (by decide) ?_
    refine z_callS (As := [.int v, .int (nI 50), .int (nI 150)]) (rest := []) hF hK (c_X5_in l D y v (nI 50) (nI 150) ) (va_cwS 3 hts gX5_set_X5_in rfl rfl rfl (by decide +kernel) ⟨Nat.le_of_ble_eq_true rfl, Nat.le_of_ble_eq_true rfl⟩) trivial rfl hl.1 rfl (Nat.le_of_ble_eq_true rfl) dX5_set_10 ⟨Nat.zero_le _, Nat.zero_le _⟩ ?_
    refine lv_goto (tgt := 52) hx hb dX5_set_13 (by decide) ?_
    refine lv_istore_n (lv' := [(3, .int (bI (inB v (nI 50) (nI 150)))), (0, .ref m), (1, .int w), (2, .int v)]) hx hb dX5_set_52 rfl hl (by decide) rfl (fun ls hl => ?_)
    refine lv_iload_n hx hb dX5_set_53 rfl (lv_at hl 0 rfl) ?_
    refine z_ifne (tgt := 61) hx hb dX5_set_54 (by decide) (fun c54 => ?_) (fun c54 => ?_)
    · first | exact absurd (show okSet w v = true by unfold okSet; rw [if_pos c1]; exact c54) (bf hno) | exact absurd (show okSet w v = true by unfold okSet; rw [if_neg c1, if_pos c18]; exact c54) (bf hno) | exact absurd (show okSet w v = true by unfold okSet; rw [if_neg c1, if_neg c18, if_pos c34]; exact c44) (bf hno) | exact absurd (by decide) c54
    · refine lv_sipush (v := (-1001)) hx hb dX5_set_57 (by decide) ?_
      exact w_reti hx hb hr hlocks hS (hP) (rfl) dX5_set_60
theorem i_c_X5_count_X5 : ∀ w ∈ wsX50, w ∈ wsX5_count := fun w h => (List.mem_cons_of_mem _ (List.mem_append_right _ h))
set_option maxRecDepth 100000 in
set_option maxHeartbeats 4000000 in
theorem c_X5_count (l : Launch) (D : va_G) (y : zY) (m : Nat) (d : Nat → Int32) (was : Nat → Int32) (as : Nat → Int32) (tx : Nat → Int32) (gt : Nat → Int32) (k : Nat) (pa : Int32) (rs : Int32) (len : Nat) (w : Int32) (hI : zI d) (hk4 : k ≤ 4) (hlen : len ≤ 80) : Met l yX5_count wsX5_count ({ frames := 5, cells := 0, slots := 0, locals := 124 }) (zP [.ref m, .int w] (va_P D vwCl (mWs y m d was as tx gt (nI k) (nI len) pa rs)) D y) (zW (some (.int (aCount d k len w))) (va_P D vwCl (mWs y m d was as tx gt (nI k) (nI len) pa rs)) (blk m 6)) 0 0 (blk m 6) := by
  refine z_body (cc := cX5_count) (maxL := 2) (ret := (some .int)) (la := [(0, .ref m), (1, .int w)]) (by decide) rfl (Nat.le_of_ble_eq_true rfl) rfl ?_
  intro pg ev s mm below meth c0 ls hx hb hr hF hlocks hΦ hK hl _
  have hts := hF.2.2.2.2
  have hown : s.vm.findClass RX5 = some mm.cls := hF.2.2.2.1
  have hP : va_P D vwCl (mWs y m d was as tx gt (nI k) (nI len) pa rs) s.heap := hΦ
  have hS : va_S (blk m 6) s.heap s.heap [] := va_S.rf
  have hG2 := hI.ng2
  have hC8 := hI.nc8
  have hrk := recN_le hk4
  refine lv_iload_n hx hb dX5_count_0 rfl (lv_at hl 1 rfl) ?_
  rcases sw_0_12 w with c1 | c1 | c1 | c1 | c1 | c1 | c1 | c1 | c1 | c1 | c1 | c1 | c1 | ⟨c1_0, c1_1, c1_2, c1_3, c1_4, c1_5, c1_6, c1_7, c1_8, c1_9, c1_10, c1_11, c1_12⟩
  · refine lv_tableIn (off := 67) (tgt := 68) hx hb dX5_count_1 (by rw [c1]; decide) (by rw [c1]; decide) (by rw [c1]; rfl) (by decide) ?_
    refine lv_aload_n hx hb dX5_count_68 rfl (lv_at hl 0 rfl) ?_
    refine z_get (fs := [.ref (m + 1), .ref (m + 2), .int (nI k), .ref (m + 3), .ref (m + 4), .int (nI len), .int pa, .int rs, .ref (m + 5)]) (ref := "CranePermitsModel") (C := RX5) (T := TX5) (N := 9) (ci := 5) (v := .ref (m + 1)) hx hb hts i_c_X5_count_X5 hown hK (hP 0 _ rfl) 0 (by decide) rfl (hts (.fieldLink RX5 7 "CranePermitsModel" "d" "[I") (List.mem_of_getElem? (i := 1) rfl)) rfl rfl dX5_count_69 ?_
    refine lv_iconst (v := (nI 0)) hx hb dX5_count_72 (by decide) ?_
    refine z_iald (f := d) hx hb hK (hP 1 _ rfl) (by omega) (by decide) dX5_count_73 ?_
    exact w_reti hx hb hr hlocks hS (hP) (by unfold aCount; (rw [c1]); try rfl) dX5_count_74
  · refine lv_tableIn (off := 74) (tgt := 75) hx hb dX5_count_1 (by rw [c1]; decide) (by rw [c1]; decide) (by rw [c1]; rfl) (by decide) ?_
    refine lv_aload_n hx hb dX5_count_75 rfl (lv_at hl 0 rfl) ?_
    refine lv_iconst (v := (-1)) hx hb dX5_count_76 (by decide) ?_
    refine z_callV (As := [.int (-1)]) (rest := []) hF hK (c_X5_valid l D y m d (-1) (hI)) (cwV 1 hts gX5_count_X5_valid rfl rfl rfl (by decide +kernel) ⟨Nat.le_of_ble_eq_true rfl, Nat.le_of_ble_eq_true rfl⟩) (z_recv (q := (RX5, TX5, 9)) hK (hP 0 _ rfl) rfl) (zM_of hP) rfl hl.1 rfl (Nat.le_of_ble_eq_true rfl) dX5_count_77 ⟨Nat.zero_le _, Nat.zero_le _⟩ ?_
    exact w_reti hx hb hr hlocks hS (hP) (by unfold aCount; (rw [c1]); try rfl) dX5_count_80
  · refine lv_tableIn (off := 80) (tgt := 81) hx hb dX5_count_1 (by rw [c1]; decide) (by rw [c1]; decide) (by rw [c1]; rfl) (by decide) ?_
    refine lv_aload_n hx hb dX5_count_81 rfl (lv_at hl 0 rfl) ?_
    refine z_get (fs := [.ref (m + 1), .ref (m + 2), .int (nI k), .ref (m + 3), .ref (m + 4), .int (nI len), .int pa, .int rs, .ref (m + 5)]) (ref := "CranePermitsModel") (C := RX5) (T := TX5) (N := 9) (ci := 5) (v := .ref (m + 1)) hx hb hts i_c_X5_count_X5 hown hK (hP 0 _ rfl) 0 (by decide) rfl (hts (.fieldLink RX5 7 "CranePermitsModel" "d" "[I") (List.mem_of_getElem? (i := 1) rfl)) rfl rfl dX5_count_82 ?_
    refine lv_sipush (v := (nI 442)) hx hb dX5_count_85 (by decide) ?_
    refine lv_iload_n hx hb dX5_count_88 rfl (lv_at hl 1 rfl) ?_
    refine z_topi (z := (nI 2)) (c1) ?_
    refine z_iadd hx hb dX5_count_89 ?_
    refine lv_iconst (v := (nI 2)) hx hb dX5_count_90 (by decide) ?_
    refine z_isub hx hb (by omega) dX5_count_91 ?_
    refine z_iald (f := d) hx hb hK (hP 1 _ rfl) (by omega) (by decide) dX5_count_92 ?_
    exact w_reti hx hb hr hlocks hS (hP) (by unfold aCount; (rw [c1]); try rfl) dX5_count_93
  · refine lv_tableIn (off := 80) (tgt := 81) hx hb dX5_count_1 (by rw [c1]; decide) (by rw [c1]; decide) (by rw [c1]; rfl) (by decide) ?_
    refine lv_aload_n hx hb dX5_count_81 rfl (lv_at hl 0 rfl) ?_
    refine z_get (fs := [.ref (m + 1), .ref (m + 2), .int (nI k), .ref (m + 3), .ref (m + 4), .int (nI len), .int pa, .int rs, .ref (m + 5)]) (ref := "CranePermitsModel") (C := RX5) (T := TX5) (N := 9) (ci := 5) (v := .ref (m + 1)) hx hb hts i_c_X5_count_X5 hown hK (hP 0 _ rfl) 0 (by decide) rfl (hts (.fieldLink RX5 7 "CranePermitsModel" "d" "[I") (List.mem_of_getElem? (i := 1) rfl)) rfl rfl dX5_count_82 ?_
    refine lv_sipush (v := (nI 442)) hx hb dX5_count_85 (by decide) ?_
    refine lv_iload_n hx hb dX5_count_88 rfl (lv_at hl 1 rfl) ?_
    refine z_topi (z := (nI 3)) (c1) ?_
    refine z_iadd hx hb dX5_count_89 ?_
    refine lv_iconst (v := (nI 2)) hx hb dX5_count_90 (by decide) ?_
    refine z_isub hx hb (by omega) dX5_count_91 ?_
    refine z_iald (f := d) hx hb hK (hP 1 _ rfl) (by omega) (by decide) dX5_count_92 ?_
    exact w_reti hx hb hr hlocks hS (hP) (by unfold aCount; (rw [c1]); try rfl) dX5_count_93
  · refine lv_tableIn (off := 80) (tgt := 81) hx hb dX5_count_1 (by rw [c1]; decide) (by rw [c1]; decide) (by rw [c1]; rfl) (by decide) ?_
    refine lv_aload_n hx hb dX5_count_81 rfl (lv_at hl 0 rfl) ?_
    refine z_get (fs := [.ref (m + 1), .ref (m + 2), .int (nI k), .ref (m + 3), .ref (m + 4), .int (nI len), .int pa, .int rs, .ref (m + 5)]) (ref := "CranePermitsModel") (C := RX5) (T := TX5) (N := 9) (ci := 5) (v := .ref (m + 1)) hx hb hts i_c_X5_count_X5 hown hK (hP 0 _ rfl) 0 (by decide) rfl (hts (.fieldLink RX5 7 "CranePermitsModel" "d" "[I") (List.mem_of_getElem? (i := 1) rfl)) rfl rfl dX5_count_82 ?_
    refine lv_sipush (v := (nI 442)) hx hb dX5_count_85 (by decide) ?_
    refine lv_iload_n hx hb dX5_count_88 rfl (lv_at hl 1 rfl) ?_
    refine z_topi (z := (nI 4)) (c1) ?_
    refine z_iadd hx hb dX5_count_89 ?_
    refine lv_iconst (v := (nI 2)) hx hb dX5_count_90 (by decide) ?_
    refine z_isub hx hb (by omega) dX5_count_91 ?_
    refine z_iald (f := d) hx hb hK (hP 1 _ rfl) (by omega) (by decide) dX5_count_92 ?_
    exact w_reti hx hb hr hlocks hS (hP) (by unfold aCount; (rw [c1]); try rfl) dX5_count_93
  · refine lv_tableIn (off := 93) (tgt := 94) hx hb dX5_count_1 (by rw [c1]; decide) (by rw [c1]; decide) (by rw [c1]; rfl) (by decide) ?_
    refine lv_aload_n hx hb dX5_count_94 rfl (lv_at hl 0 rfl) ?_
    refine lv_iconst (v := (nI 0)) hx hb dX5_count_95 (by decide) ?_
    refine z_topi (z := (bI false)) (rfl) ?_
    refine z_callV (As := [.int (bI false)]) (rest := []) hF hK (c_X5_together l D y m d false (hI)) (cwV 1 hts gX5_count_X5_together rfl rfl rfl (by decide +kernel) ⟨Nat.le_of_ble_eq_true rfl, Nat.le_of_ble_eq_true rfl⟩) (z_recv (q := (RX5, TX5, 9)) hK (hP 0 _ rfl) rfl) (zM_of hP) rfl hl.1 rfl (Nat.le_of_ble_eq_true rfl) dX5_count_96 ⟨Nat.zero_le _, Nat.zero_le _⟩ ?_
    exact w_reti hx hb hr hlocks hS (hP) (by unfold aCount; (rw [c1]); try rfl) dX5_count_99
  · refine lv_tableIn (off := 99) (tgt := 100) hx hb dX5_count_1 (by rw [c1]; decide) (by rw [c1]; decide) (by rw [c1]; rfl) (by decide) ?_
    refine lv_aload_n hx hb dX5_count_100 rfl (lv_at hl 0 rfl) ?_
    refine lv_iconst (v := (nI 1)) hx hb dX5_count_101 (by decide) ?_
    refine z_topi (z := (bI true)) (rfl) ?_
    refine z_callV (As := [.int (bI true)]) (rest := []) hF hK (c_X5_together l D y m d true (hI)) (cwV 1 hts gX5_count_X5_together rfl rfl rfl (by decide +kernel) ⟨Nat.le_of_ble_eq_true rfl, Nat.le_of_ble_eq_true rfl⟩) (z_recv (q := (RX5, TX5, 9)) hK (hP 0 _ rfl) rfl) (zM_of hP) rfl hl.1 rfl (Nat.le_of_ble_eq_true rfl) dX5_count_102 ⟨Nat.zero_le _, Nat.zero_le _⟩ ?_
    exact w_reti hx hb hr hlocks hS (hP) (by unfold aCount; (rw [c1]); try rfl) dX5_count_105
  · refine lv_tableIn (off := 105) (tgt := 106) hx hb dX5_count_1 (by rw [c1]; decide) (by rw [c1]; decide) (by rw [c1]; rfl) (by decide) ?_
    refine lv_aload_n hx hb dX5_count_106 rfl (lv_at hl 0 rfl) ?_
    refine z_get (fs := [.ref (m + 1), .ref (m + 2), .int (nI k), .ref (m + 3), .ref (m + 4), .int (nI len), .int pa, .int rs, .ref (m + 5)]) (ref := "CranePermitsModel") (C := RX5) (T := TX5) (N := 9) (ci := 5) (v := .int (nI k)) hx hb hts i_c_X5_count_X5 hown hK (hP 0 _ rfl) 2 (by decide) rfl (hts (.fieldLink RX5 30 "CranePermitsModel" "states" "I") (List.mem_of_getElem? (i := 2) rfl)) rfl rfl dX5_count_107 ?_
    exact w_reti hx hb hr hlocks hS (hP) (by unfold aCount; (rw [c1]); try rfl) dX5_count_110
  · refine lv_tableIn (off := 110) (tgt := 111) hx hb dX5_count_1 (by rw [c1]; decide) (by rw [c1]; decide) (by rw [c1]; rfl) (by decide) ?_
    refine lv_aload_n hx hb dX5_count_111 rfl (lv_at hl 0 rfl) ?_
    refine z_get (fs := [.ref (m + 1), .ref (m + 2), .int (nI k), .ref (m + 3), .ref (m + 4), .int (nI len), .int pa, .int rs, .ref (m + 5)]) (ref := "CranePermitsModel") (C := RX5) (T := TX5) (N := 9) (ci := 5) (v := .int (nI len)) hx hb hts i_c_X5_count_X5 hown hK (hP 0 _ rfl) 5 (by decide) rfl (hts (.fieldLink RX5 117 "CranePermitsModel" "typed" "I") (List.mem_of_getElem? (i := 3) rfl)) rfl rfl dX5_count_112 ?_
    exact w_reti hx hb hr hlocks hS (hP) (by unfold aCount; (rw [c1]); try rfl) dX5_count_115
  · refine lv_tableIn (off := 127) (tgt := 128) hx hb dX5_count_1 (by rw [c1]; decide) (by rw [c1]; decide) (by rw [c1]; rfl) (by decide) ?_
    refine lv_sipush (v := (-1001)) hx hb dX5_count_128 (by decide) ?_
    exact w_reti hx hb hr hlocks hS (hP) (by unfold aCount; (rw [c1]); try rfl) dX5_count_131
  · refine lv_tableIn (off := 115) (tgt := 116) hx hb dX5_count_1 (by rw [c1]; decide) (by rw [c1]; decide) (by rw [c1]; rfl) (by decide) ?_
    refine lv_aload_n hx hb dX5_count_116 rfl (lv_at hl 0 rfl) ?_
    refine z_get (fs := [.ref (m + 1), .ref (m + 2), .int (nI k), .ref (m + 3), .ref (m + 4), .int (nI len), .int pa, .int rs, .ref (m + 5)]) (ref := "CranePermitsModel") (C := RX5) (T := TX5) (N := 9) (ci := 5) (v := .ref (m + 1)) hx hb hts i_c_X5_count_X5 hown hK (hP 0 _ rfl) 0 (by decide) rfl (hts (.fieldLink RX5 7 "CranePermitsModel" "d" "[I") (List.mem_of_getElem? (i := 1) rfl)) rfl rfl dX5_count_117 ?_
    refine lv_iconst (v := (nI 1)) hx hb dX5_count_120 (by decide) ?_
    refine lv_iload_n hx hb dX5_count_121 rfl (lv_at hl 1 rfl) ?_
    refine z_topi (z := (nI 10)) (c1) ?_
    refine z_iadd hx hb dX5_count_122 ?_
    refine lv_bipush (v := (nI 10)) hx hb dX5_count_123 (by decide) ?_
    refine z_isub hx hb (by omega) dX5_count_125 ?_
    refine z_iald (f := d) hx hb hK (hP 1 _ rfl) (by omega) (by decide) dX5_count_126 ?_
    exact w_reti hx hb hr hlocks hS (hP) (by unfold aCount; (rw [c1]); try rfl) dX5_count_127
  · refine lv_tableIn (off := 115) (tgt := 116) hx hb dX5_count_1 (by rw [c1]; decide) (by rw [c1]; decide) (by rw [c1]; rfl) (by decide) ?_
    refine lv_aload_n hx hb dX5_count_116 rfl (lv_at hl 0 rfl) ?_
    refine z_get (fs := [.ref (m + 1), .ref (m + 2), .int (nI k), .ref (m + 3), .ref (m + 4), .int (nI len), .int pa, .int rs, .ref (m + 5)]) (ref := "CranePermitsModel") (C := RX5) (T := TX5) (N := 9) (ci := 5) (v := .ref (m + 1)) hx hb hts i_c_X5_count_X5 hown hK (hP 0 _ rfl) 0 (by decide) rfl (hts (.fieldLink RX5 7 "CranePermitsModel" "d" "[I") (List.mem_of_getElem? (i := 1) rfl)) rfl rfl dX5_count_117 ?_
    refine lv_iconst (v := (nI 1)) hx hb dX5_count_120 (by decide) ?_
    refine lv_iload_n hx hb dX5_count_121 rfl (lv_at hl 1 rfl) ?_
    refine z_topi (z := (nI 11)) (c1) ?_
    refine z_iadd hx hb dX5_count_122 ?_
    refine lv_bipush (v := (nI 10)) hx hb dX5_count_123 (by decide) ?_
    refine z_isub hx hb (by omega) dX5_count_125 ?_
    refine z_iald (f := d) hx hb hK (hP 1 _ rfl) (by omega) (by decide) dX5_count_126 ?_
    exact w_reti hx hb hr hlocks hS (hP) (by unfold aCount; (rw [c1]); try rfl) dX5_count_127
  · refine lv_tableIn (off := 115) (tgt := 116) hx hb dX5_count_1 (by rw [c1]; decide) (by rw [c1]; decide) (by rw [c1]; rfl) (by decide) ?_
    refine lv_aload_n hx hb dX5_count_116 rfl (lv_at hl 0 rfl) ?_
    refine z_get (fs := [.ref (m + 1), .ref (m + 2), .int (nI k), .ref (m + 3), .ref (m + 4), .int (nI len), .int pa, .int rs, .ref (m + 5)]) (ref := "CranePermitsModel") (C := RX5) (T := TX5) (N := 9) (ci := 5) (v := .ref (m + 1)) hx hb hts i_c_X5_count_X5 hown hK (hP 0 _ rfl) 0 (by decide) rfl (hts (.fieldLink RX5 7 "CranePermitsModel" "d" "[I") (List.mem_of_getElem? (i := 1) rfl)) rfl rfl dX5_count_117 ?_
    refine lv_iconst (v := (nI 1)) hx hb dX5_count_120 (by decide) ?_
    refine lv_iload_n hx hb dX5_count_121 rfl (lv_at hl 1 rfl) ?_
    refine z_topi (z := (nI 12)) (c1) ?_
    refine z_iadd hx hb dX5_count_122 ?_
    refine lv_bipush (v := (nI 10)) hx hb dX5_count_123 (by decide) ?_
    refine z_isub hx hb (by omega) dX5_count_125 ?_
    refine z_iald (f := d) hx hb hK (hP 1 _ rfl) (by omega) (by decide) dX5_count_126 ?_
    exact w_reti hx hb hr hlocks hS (hP) (by unfold aCount; (rw [c1]); try rfl) dX5_count_127
  · refine lv_tableOut (tgt := 128) hx hb dX5_count_1 (swOut_0_12 c1_0 c1_1 c1_2 c1_3 c1_4 c1_5 c1_6 c1_7 c1_8 c1_9 c1_10 c1_11 c1_12) (by decide) ?_
    refine lv_sipush (v := (-1001)) hx hb dX5_count_128 (by decide) ?_
    exact w_reti hx hb hr hlocks hS (hP) (by unfold aCount; (first | rw [if_pos c1_0] | rw [if_neg c1_0] | rw [if_neg (bf c1_0)] | skip); (first | rw [if_pos c1_1] | rw [if_neg c1_1] | rw [if_neg (bf c1_1)] | skip); (first | rw [if_pos c1_2] | rw [if_neg c1_2] | rw [if_neg (bf c1_2)] | skip); (first | rw [if_pos c1_3] | rw [if_neg c1_3] | rw [if_neg (bf c1_3)] | skip); (first | rw [if_pos c1_4] | rw [if_neg c1_4] | rw [if_neg (bf c1_4)] | skip); (first | rw [if_pos c1_5] | rw [if_neg c1_5] | rw [if_neg (bf c1_5)] | skip); (first | rw [if_pos c1_6] | rw [if_neg c1_6] | rw [if_neg (bf c1_6)] | skip); (first | rw [if_pos c1_7] | rw [if_neg c1_7] | rw [if_neg (bf c1_7)] | skip); (first | rw [if_pos c1_8] | rw [if_neg c1_8] | rw [if_neg (bf c1_8)] | skip); (first | rw [if_pos c1_9] | rw [if_neg c1_9] | rw [if_neg (bf c1_9)] | skip); (first | rw [if_pos c1_10] | rw [if_neg c1_10] | rw [if_neg (bf c1_10)] | skip); (first | rw [if_pos c1_11] | rw [if_neg c1_11] | rw [if_neg (bf c1_11)] | skip); (first | rw [if_pos c1_12] | rw [if_neg c1_12] | rw [if_neg (bf c1_12)] | skip); try rfl) dX5_count_131
theorem i_c_X5_undo_ok_X5 : ∀ w ∈ wsX50, w ∈ wsX5_undo := fun w h => (List.mem_cons_of_mem _ (List.mem_append_right _ h))
set_option maxRecDepth 100000 in
set_option maxHeartbeats 4000000 in
theorem c_X5_undo_ok (l : Launch) (D : va_G) (y : zY) (m : Nat) (d : Nat → Int32) (was : Nat → Int32) (as : Nat → Int32) (tx : Nat → Int32) (gt : Nat → Int32) (k : Nat) (ty : Int32) (pa : Int32) (rs : Int32) (hk4 : k < 4) : Met l yX5_undo wsX5_undo ({ frames := 0, cells := 0, slots := 0, locals := 0 }) (zP [.ref m] (va_P D vwCl (mWs y m d was as tx gt (nI (k + 1)) ty pa rs)) D y) (zW (some (.int (nI k))) (va_P D vwCl (mWs y m (undD d was k) was as tx gt (nI k) ty pa rs)) (blk m 6)) 0 0 (blk m 6) := by
  refine z_body (cc := cX5_undo) (maxL := 2) (ret := (some .int)) (la := [(0, .ref m)]) (by decide) rfl (Nat.le_of_ble_eq_true rfl) rfl ?_
  intro pg ev s mm below meth c0 ls hx hb hr hF hlocks hΦ hK hl _
  have hts := hF.2.2.2.2
  have hown : s.vm.findClass RX5 = some mm.cls := hF.2.2.2.1
  have hP : va_P D vwCl (mWs y m d was as tx gt (nI (k + 1)) ty pa rs) s.heap := hΦ
  have hS : va_S (blk m 6) s.heap s.heap [] := va_S.rf
  refine lv_aload_n hx hb dX5_undo_0 rfl (lv_at hl 0 rfl) ?_
  refine z_get (fs := [.ref (m + 1), .ref (m + 2), .int (nI (k + 1)), .ref (m + 3), .ref (m + 4), .int ty, .int pa, .int rs, .ref (m + 5)]) (ref := "CranePermitsModel") (C := RX5) (T := TX5) (N := 9) (ci := 5) (v := .int (nI (k + 1))) hx hb hts i_c_X5_undo_ok_X5 hown hK (hP 0 _ rfl) 2 (by decide) rfl (hts (.fieldLink RX5 30 "CranePermitsModel" "states" "I") (List.mem_of_getElem? (i := 1) rfl)) rfl rfl dX5_undo_1 ?_
  refine lv_if_ne (tgt := 11) hx hb dX5_undo_4 (by decide) (fun c4 => ?_) (fun c4 => ?_)
  · refine lv_aload_n hx hb dX5_undo_11 rfl (lv_at hl 0 rfl) ?_
    refine lv_dup hx hb dX5_undo_12 rfl ?_
    refine z_get (fs := [.ref (m + 1), .ref (m + 2), .int (nI (k + 1)), .ref (m + 3), .ref (m + 4), .int ty, .int pa, .int rs, .ref (m + 5)]) (ref := "CranePermitsModel") (C := RX5) (T := TX5) (N := 9) (ci := 5) (v := .int (nI (k + 1))) hx hb hts i_c_X5_undo_ok_X5 hown hK (hP 0 _ rfl) 2 (by decide) rfl (hts (.fieldLink RX5 30 "CranePermitsModel" "states" "I") (List.mem_of_getElem? (i := 1) rfl)) rfl rfl dX5_undo_13 ?_
    refine lv_iconst (v := (nI 1)) hx hb dX5_undo_16 (by decide) ?_
    refine z_isub hx hb (by omega) dX5_undo_17 ?_
    refine y_put (a := m) (fs := [.ref (m + 1), .ref (m + 2), .int (nI (k + 1)), .ref (m + 3), .ref (m + 4), .int ty, .int pa, .int rs, .ref (m + 5)]) (ref := "CranePermitsModel") (C := RX5) (T := TX5) (N := 9) (ci := 5) (v := .int (nI ((k + 1) - 1))) (ty := .int) hx hb hts i_c_X5_undo_ok_X5 tyX5 tyX5_ok nmX5 hown hK (hP 0 _ rfl) 2 (by decide) rfl (hts (.fieldLink RX5 30 "CranePermitsModel" "states" "I") (List.mem_of_getElem? (i := 1) rfl)) rfl rfl (by decide +kernel) (rfl) rfl (Nat.le_of_ble_eq_true rfl) dX5_undo_18 (fun H1 x1 hU hV => ?_)
    have hS := hS.upd (x := x1) hU (blk_in (by omega) (by omega))
    have hP : va_P D vwCl (mWs y m d was as tx gt (nI ((k + 1) - 1)) ty pa rs) H1 := hP.upd (q0 := 0) mWs_D rfl hU hV
    clear hU hV
    refine lv_iconst (v := (nI 0)) hx hb dX5_undo_21 (by decide) ?_
    refine lv_istore_n (lv' := [(1, .int (nI 0)), (0, .ref m)]) hx hb dX5_undo_22 rfl hl (by decide) rfl (fun ls hl => ?_)
    refine z_loopW (S := Nat) (nL := 2) (fun (i : Nat) => 1445 - i) (fun (i : Nat) => [(1, .int (nI i)), (0, .ref m)]) (fun (i : Nat) (H : Heap) (locs : List Loc) => va_P D vwCl (mWs y m (cpN d (unW was (k + 1 - 1)) 0 i) was as tx gt (nI ((k + 1) - 1)) ty pa rs) H ∧ va_S (blk m 6) s.heap H locs ∧ (i ≤ 1445)) 0 ⟨by rw [cp_0]; exact hP, hS, by omega⟩ (lv_sub hl [0, 1] rfl) ?_
    clear hl hP hS
    rintro i H2 locs ls ⟨hP, hS, hI_23⟩ hl ih_23
    have hi := hI_23
    refine lv_iload_n hx hb dX5_undo_23 rfl (lv_at hl 0 rfl) ?_
    refine lv_sipush (v := (nI 1445)) hx hb dX5_undo_24 (by decide) ?_
    refine z_ge (tgt := 57) hx hb (by omega) (by omega) dX5_undo_27 (by decide) (fun c27 => ?_) (fun c27 => ?_)
    · refine lv_aload_n hx hb dX5_undo_57 rfl (lv_at hl 1 rfl) ?_
      refine z_get (fs := [.ref (m + 1), .ref (m + 2), .int (nI ((k + 1) - 1)), .ref (m + 3), .ref (m + 4), .int ty, .int pa, .int rs, .ref (m + 5)]) (ref := "CranePermitsModel") (C := RX5) (T := TX5) (N := 9) (ci := 5) (v := .int (nI ((k + 1) - 1))) hx hb hts i_c_X5_undo_ok_X5 hown hK (hP 0 _ rfl) 2 (by decide) rfl (hts (.fieldLink RX5 30 "CranePermitsModel" "states" "I") (List.mem_of_getElem? (i := 1) rfl)) rfl rfl dX5_undo_58 ?_
      exact w_reti hx hb hr hlocks hS (by rw [show i = 1445 by omega] at hP; exact hP) (rfl) dX5_undo_61
    · refine lv_aload_n hx hb dX5_undo_30 rfl (lv_at hl 1 rfl) ?_
      refine z_get (fs := [.ref (m + 1), .ref (m + 2), .int (nI ((k + 1) - 1)), .ref (m + 3), .ref (m + 4), .int ty, .int pa, .int rs, .ref (m + 5)]) (ref := "CranePermitsModel") (C := RX5) (T := TX5) (N := 9) (ci := 5) (v := .ref (m + 1)) hx hb hts i_c_X5_undo_ok_X5 hown hK (hP 0 _ rfl) 0 (by decide) rfl (hts (.fieldLink RX5 7 "CranePermitsModel" "d" "[I") (List.mem_of_getElem? (i := 2) rfl)) rfl rfl dX5_undo_31 ?_
      refine lv_iload_n hx hb dX5_undo_34 rfl (lv_at hl 0 rfl) ?_
      refine lv_aload_n hx hb dX5_undo_35 rfl (lv_at hl 1 rfl) ?_
      refine z_get (fs := [.ref (m + 1), .ref (m + 2), .int (nI ((k + 1) - 1)), .ref (m + 3), .ref (m + 4), .int ty, .int pa, .int rs, .ref (m + 5)]) (ref := "CranePermitsModel") (C := RX5) (T := TX5) (N := 9) (ci := 5) (v := .ref (m + 2)) hx hb hts i_c_X5_undo_ok_X5 hown hK (hP 0 _ rfl) 1 (by decide) rfl (hts (.fieldLink RX5 13 "CranePermitsModel" "was" "[I") (List.mem_of_getElem? (i := 3) rfl)) rfl rfl dX5_undo_36 ?_
      refine lv_sipush (v := (nI 1445)) hx hb dX5_undo_39 (by decide) ?_
      refine lv_aload_n hx hb dX5_undo_42 rfl (lv_at hl 1 rfl) ?_
      refine z_get (fs := [.ref (m + 1), .ref (m + 2), .int (nI ((k + 1) - 1)), .ref (m + 3), .ref (m + 4), .int ty, .int pa, .int rs, .ref (m + 5)]) (ref := "CranePermitsModel") (C := RX5) (T := TX5) (N := 9) (ci := 5) (v := .int (nI ((k + 1) - 1))) hx hb hts i_c_X5_undo_ok_X5 hown hK (hP 0 _ rfl) 2 (by decide) rfl (hts (.fieldLink RX5 30 "CranePermitsModel" "states" "I") (List.mem_of_getElem? (i := 1) rfl)) rfl rfl dX5_undo_43 ?_
      refine z_imul hx hb dX5_undo_46 ?_
      refine lv_iload_n hx hb dX5_undo_47 rfl (lv_at hl 0 rfl) ?_
      refine z_iadd hx hb dX5_undo_48 ?_
      refine z_iald (f := was) hx hb hK (hP 2 _ rfl) (by omega) (by decide) dX5_undo_49 ?_
      refine y_iast (a := (m + 1)) (f := (cpN d (unW was (k + 1 - 1)) 0 i)) (i := i) hx hb hK (hP 1 _ rfl) (by omega) (by decide) dX5_undo_50 (fun H3 hU hV => ?_)
      have hS := hS.upd (x := i) hU (blk_in (by omega) (by omega))
      have hP : va_P D vwCl (mWs y m (upd (cpN d (unW was (k + 1 - 1)) 0 i) i (was ((1445 * ((k + 1) - 1)) + i))) was as tx gt (nI ((k + 1) - 1)) ty pa rs) H3 := hP.upd (q0 := 1) mWs_D rfl hU hV
      clear hU hV
      refine lv_iinc (v := (nI (i + 1))) (lv' := [(1, .int (nI (i + 1))), (0, .ref m)]) hx hb dX5_undo_51 hl (k := 0) rfl (in1 _) (by decide) rfl (fun ls hl => ?_)
      refine lv_goto (tgt := 23) hx hb dX5_undo_54 (by decide) ?_
      exact ih_23 (i + 1) _ _ _ (by omega) ⟨by rw [show upd (cpN d (unW was (k + 1 - 1)) 0 i) i (was (1445 * (k + 1 - 1) + i)) = cpN d (unW was (k + 1 - 1)) 0 (i + 1) from cp_s0 d (unW was (k + 1 - 1)) i] at hP; exact hP, hS, by omega⟩ (lv_sub hl [0, 1] rfl)
  · exact absurd c4 (nI_ne0 (by omega) (by omega))
theorem i_c_X5_undo_no_X5 : ∀ w ∈ wsX50, w ∈ wsX5_undo := fun w h => (List.mem_cons_of_mem _ (List.mem_append_right _ h))
set_option maxRecDepth 100000 in
set_option maxHeartbeats 4000000 in
theorem c_X5_undo_no (l : Launch) (D : va_G) (y : zY) (m : Nat) (d : Nat → Int32) (was : Nat → Int32) (as : Nat → Int32) (tx : Nat → Int32) (gt : Nat → Int32) (ty : Int32) (pa : Int32) (rs : Int32)  : Met l yX5_undo wsX5_undo ({ frames := 0, cells := 0, slots := 0, locals := 0 }) (zP [.ref m] (va_P D vwCl (mWs y m d was as tx gt (nI 0) ty pa rs)) D y) (zW (some (.int (-1002))) (va_P D vwCl (mWs y m d was as tx gt (nI 0) ty pa rs)) (blk m 6)) 0 0 (blk m 6) := by
  refine z_body (cc := cX5_undo) (maxL := 2) (ret := (some .int)) (la := [(0, .ref m)]) (by decide) rfl (Nat.le_of_ble_eq_true rfl) rfl ?_
  intro pg ev s mm below meth c0 ls hx hb hr hF hlocks hΦ hK hl _
  have hts := hF.2.2.2.2
  have hown : s.vm.findClass RX5 = some mm.cls := hF.2.2.2.1
  have hP : va_P D vwCl (mWs y m d was as tx gt (nI 0) ty pa rs) s.heap := hΦ
  have hS : va_S (blk m 6) s.heap s.heap [] := va_S.rf
  refine lv_aload_n hx hb dX5_undo_0 rfl (lv_at hl 0 rfl) ?_
  refine z_get (fs := [.ref (m + 1), .ref (m + 2), .int (nI 0), .ref (m + 3), .ref (m + 4), .int ty, .int pa, .int rs, .ref (m + 5)]) (ref := "CranePermitsModel") (C := RX5) (T := TX5) (N := 9) (ci := 5) (v := .int (nI 0)) hx hb hts i_c_X5_undo_no_X5 hown hK (hP 0 _ rfl) 2 (by decide) rfl (hts (.fieldLink RX5 30 "CranePermitsModel" "states" "I") (List.mem_of_getElem? (i := 1) rfl)) rfl rfl dX5_undo_1 ?_
  refine lv_if_ne (tgt := 11) hx hb dX5_undo_4 (by decide) (fun c4 => ?_) (fun c4 => ?_)
  · exact absurd (by decide) c4
  · refine lv_sipush (v := (-1002)) hx hb dX5_undo_7 (by decide) ?_
    exact w_reti hx hb hr hlocks hS (hP) (rfl) dX5_undo_10
theorem i_c_X5_type_ok_X5 : ∀ w ∈ wsX50, w ∈ wsX5_type := fun w h => (List.mem_cons_of_mem _ (List.mem_append_right _ h))
set_option maxRecDepth 100000 in
set_option maxHeartbeats 4000000 in
theorem c_X5_type_ok (l : Launch) (D : va_G) (y : zY) (m : Nat) (d : Nat → Int32) (was : Nat → Int32) (as : Nat → Int32) (tx : Nat → Int32) (gt : Nat → Int32) (k : Nat) (pa : Int32) (rs : Int32) (len : Nat) (v : Int32) (hv : inB v (nI 32) (nI 126) = true) (hlen : len < 80) : Met l yX5_type wsX5_type ({ frames := 1, cells := 0, slots := 0, locals := 22 }) (zP [.ref m, .int v] (va_P D vwCl (mWs y m d was as tx gt (nI k) (nI len) pa rs)) D y) (zW (some (.int (nI (len + 1)))) (va_P D vwCl (mWs y m d was as (upd tx len (chI v)) gt (nI k) (nI (len + 1)) pa rs)) (blk m 6)) 0 0 (blk m 6) := by
  refine z_body (cc := cX5_type) (maxL := 2) (ret := (some .int)) (la := [(0, .ref m), (1, .int v)]) (by decide) rfl (Nat.le_of_ble_eq_true rfl) rfl ?_
  intro pg ev s mm below meth c0 ls hx hb hr hF hlocks hΦ hK hl _
  have hts := hF.2.2.2.2
  have hown : s.vm.findClass RX5 = some mm.cls := hF.2.2.2.1
  have hP : va_P D vwCl (mWs y m d was as tx gt (nI k) (nI len) pa rs) s.heap := hΦ
  have hS : va_S (blk m 6) s.heap s.heap [] := va_S.rf
  refine lv_iload_n hx hb dX5_type_0 rfl (lv_at hl 1 rfl) ?_
  refine lv_bipush (v := (nI 32)) hx hb dX5_type_1 (by decide) ?_
  refine lv_bipush (v := (nI 126)) hx hb dX5_type_3 (by decide) ?_
  refine z_callS (As := [.int v, .int (nI 32), .int (nI 126)]) (rest := []) hF hK (c_X5_in l D y v (nI 32) (nI 126) ) (va_cwS 3 hts gX5_type_X5_in rfl rfl rfl (by decide +kernel) ⟨Nat.le_of_ble_eq_true rfl, Nat.le_of_ble_eq_true rfl⟩) trivial rfl hl.1 rfl (Nat.le_of_ble_eq_true rfl) dX5_type_5 ⟨Nat.zero_le _, Nat.zero_le _⟩ ?_
  refine z_ifne (tgt := 15) hx hb dX5_type_8 (by decide) (fun c8 => ?_) (fun c8 => ?_)
  · refine lv_aload_n hx hb dX5_type_15 rfl (lv_at hl 0 rfl) ?_
    refine z_get (fs := [.ref (m + 1), .ref (m + 2), .int (nI k), .ref (m + 3), .ref (m + 4), .int (nI len), .int pa, .int rs, .ref (m + 5)]) (ref := "CranePermitsModel") (C := RX5) (T := TX5) (N := 9) (ci := 5) (v := .int (nI len)) hx hb hts i_c_X5_type_ok_X5 hown hK (hP 0 _ rfl) 5 (by decide) rfl (hts (.fieldLink RX5 117 "CranePermitsModel" "typed" "I") (List.mem_of_getElem? (i := 1) rfl)) rfl rfl dX5_type_16 ?_
    refine lv_bipush (v := (nI 80)) hx hb dX5_type_19 (by decide) ?_
    refine z_ne (tgt := 28) hx hb (by omega) (by omega) dX5_type_21 (by decide) (fun c21 => ?_) (fun c21 => ?_)
    · refine lv_aload_n hx hb dX5_type_28 rfl (lv_at hl 0 rfl) ?_
      refine z_get (fs := [.ref (m + 1), .ref (m + 2), .int (nI k), .ref (m + 3), .ref (m + 4), .int (nI len), .int pa, .int rs, .ref (m + 5)]) (ref := "CranePermitsModel") (C := RX5) (T := TX5) (N := 9) (ci := 5) (v := .ref (m + 4)) hx hb hts i_c_X5_type_ok_X5 hown hK (hP 0 _ rfl) 4 (by decide) rfl (hts (.fieldLink RX5 19 "CranePermitsModel" "text" "[C") (List.mem_of_getElem? (i := 2) rfl)) rfl rfl dX5_type_29 ?_
      refine lv_aload_n hx hb dX5_type_32 rfl (lv_at hl 0 rfl) ?_
      refine z_get (fs := [.ref (m + 1), .ref (m + 2), .int (nI k), .ref (m + 3), .ref (m + 4), .int (nI len), .int pa, .int rs, .ref (m + 5)]) (ref := "CranePermitsModel") (C := RX5) (T := TX5) (N := 9) (ci := 5) (v := .int (nI len)) hx hb hts i_c_X5_type_ok_X5 hown hK (hP 0 _ rfl) 5 (by decide) rfl (hts (.fieldLink RX5 117 "CranePermitsModel" "typed" "I") (List.mem_of_getElem? (i := 1) rfl)) rfl rfl dX5_type_33 ?_
      refine lv_iload_n hx hb dX5_type_36 rfl (lv_at hl 1 rfl) ?_
      refine lv_i2c (v := (v.toUInt32 % 65536).toInt32) hx hb dX5_type_37 rfl ?_
      refine y_cast (a := (m + 4)) (f := tx) (i := len) hx hb hK (hP 4 _ rfl) (by omega) (by decide) dX5_type_38 (fun H1 hU hV => ?_)
      have hS := hS.upd (x := len) hU (blk_in (by omega) (by omega))
      have hP : va_P D vwCl (mWs y m d was as (upd tx len (vp_nar .char ((v.toUInt32 % 65536).toInt32))) gt (nI k) (nI len) pa rs) H1 := hP.upd (q0 := 4) mWs_D rfl hU hV
      clear hU hV
      refine lv_aload_n hx hb dX5_type_39 rfl (lv_at hl 0 rfl) ?_
      refine lv_dup hx hb dX5_type_40 rfl ?_
      refine z_get (fs := [.ref (m + 1), .ref (m + 2), .int (nI k), .ref (m + 3), .ref (m + 4), .int (nI len), .int pa, .int rs, .ref (m + 5)]) (ref := "CranePermitsModel") (C := RX5) (T := TX5) (N := 9) (ci := 5) (v := .int (nI len)) hx hb hts i_c_X5_type_ok_X5 hown hK (hP 0 _ rfl) 5 (by decide) rfl (hts (.fieldLink RX5 117 "CranePermitsModel" "typed" "I") (List.mem_of_getElem? (i := 1) rfl)) rfl rfl dX5_type_41 ?_
      refine lv_iconst (v := (nI 1)) hx hb dX5_type_44 (by decide) ?_
      refine z_iadd hx hb dX5_type_45 ?_
      refine y_put (a := m) (fs := [.ref (m + 1), .ref (m + 2), .int (nI k), .ref (m + 3), .ref (m + 4), .int (nI len), .int pa, .int rs, .ref (m + 5)]) (ref := "CranePermitsModel") (C := RX5) (T := TX5) (N := 9) (ci := 5) (v := .int (nI (len + 1))) (ty := .int) hx hb hts i_c_X5_type_ok_X5 tyX5 tyX5_ok nmX5 hown hK (hP 0 _ rfl) 5 (by decide) rfl (hts (.fieldLink RX5 117 "CranePermitsModel" "typed" "I") (List.mem_of_getElem? (i := 1) rfl)) rfl rfl (by decide +kernel) (rfl) rfl (Nat.le_of_ble_eq_true rfl) dX5_type_46 (fun H2 x1 hU hV => ?_)
      have hS := hS.upd (x := x1) hU (blk_in (by omega) (by omega))
      have hP : va_P D vwCl (mWs y m d was as (upd tx len (vp_nar .char ((v.toUInt32 % 65536).toInt32))) gt (nI k) (nI (len + 1)) pa rs) H2 := hP.upd (q0 := 0) mWs_D rfl hU hV
      clear hU hV
      refine lv_aload_n hx hb dX5_type_49 rfl (lv_at hl 0 rfl) ?_
      refine z_get (fs := [.ref (m + 1), .ref (m + 2), .int (nI k), .ref (m + 3), .ref (m + 4), .int (nI (len + 1)), .int pa, .int rs, .ref (m + 5)]) (ref := "CranePermitsModel") (C := RX5) (T := TX5) (N := 9) (ci := 5) (v := .int (nI (len + 1))) hx hb hts i_c_X5_type_ok_X5 hown hK (hP 0 _ rfl) 5 (by decide) rfl (hts (.fieldLink RX5 117 "CranePermitsModel" "typed" "I") (List.mem_of_getElem? (i := 1) rfl)) rfl rfl dX5_type_50 ?_
      exact w_reti hx hb hr hlocks hS (hP) (rfl) dX5_type_53
    · exact absurd c21 (by omega)
  · exact absurd hv (bf c8)
theorem i_c_X5_type_no_X5 : ∀ w ∈ wsX50, w ∈ wsX5_type := fun w h => (List.mem_cons_of_mem _ (List.mem_append_right _ h))
set_option maxRecDepth 100000 in
set_option maxHeartbeats 4000000 in
theorem c_X5_type_no (l : Launch) (D : va_G) (y : zY) (m : Nat) (d : Nat → Int32) (was : Nat → Int32) (as : Nat → Int32) (tx : Nat → Int32) (gt : Nat → Int32) (k : Nat) (pa : Int32) (rs : Int32) (len : Nat) (v : Int32) (hno : ¬ (inB v (nI 32) (nI 126) = true ∧ len < 80)) (hlen : len ≤ 80) : Met l yX5_type wsX5_type ({ frames := 1, cells := 0, slots := 0, locals := 22 }) (zP [.ref m, .int v] (va_P D vwCl (mWs y m d was as tx gt (nI k) (nI len) pa rs)) D y) (zW (some (.int (eIf (inB v (nI 32) (nI 126)) (-1003)))) (va_P D vwCl (mWs y m d was as tx gt (nI k) (nI len) pa rs)) (blk m 6)) 0 0 (blk m 6) := by
  refine z_body (cc := cX5_type) (maxL := 2) (ret := (some .int)) (la := [(0, .ref m), (1, .int v)]) (by decide) rfl (Nat.le_of_ble_eq_true rfl) rfl ?_
  intro pg ev s mm below meth c0 ls hx hb hr hF hlocks hΦ hK hl _
  have hts := hF.2.2.2.2
  have hown : s.vm.findClass RX5 = some mm.cls := hF.2.2.2.1
  have hP : va_P D vwCl (mWs y m d was as tx gt (nI k) (nI len) pa rs) s.heap := hΦ
  have hS : va_S (blk m 6) s.heap s.heap [] := va_S.rf
  refine lv_iload_n hx hb dX5_type_0 rfl (lv_at hl 1 rfl) ?_
  refine lv_bipush (v := (nI 32)) hx hb dX5_type_1 (by decide) ?_
  refine lv_bipush (v := (nI 126)) hx hb dX5_type_3 (by decide) ?_
  refine z_callS (As := [.int v, .int (nI 32), .int (nI 126)]) (rest := []) hF hK (c_X5_in l D y v (nI 32) (nI 126) ) (va_cwS 3 hts gX5_type_X5_in rfl rfl rfl (by decide +kernel) ⟨Nat.le_of_ble_eq_true rfl, Nat.le_of_ble_eq_true rfl⟩) trivial rfl hl.1 rfl (Nat.le_of_ble_eq_true rfl) dX5_type_5 ⟨Nat.zero_le _, Nat.zero_le _⟩ ?_
  refine z_ifne (tgt := 15) hx hb dX5_type_8 (by decide) (fun c8 => ?_) (fun c8 => ?_)
  · refine lv_aload_n hx hb dX5_type_15 rfl (lv_at hl 0 rfl) ?_
    refine z_get (fs := [.ref (m + 1), .ref (m + 2), .int (nI k), .ref (m + 3), .ref (m + 4), .int (nI len), .int pa, .int rs, .ref (m + 5)]) (ref := "CranePermitsModel") (C := RX5) (T := TX5) (N := 9) (ci := 5) (v := .int (nI len)) hx hb hts i_c_X5_type_no_X5 hown hK (hP 0 _ rfl) 5 (by decide) rfl (hts (.fieldLink RX5 117 "CranePermitsModel" "typed" "I") (List.mem_of_getElem? (i := 1) rfl)) rfl rfl dX5_type_16 ?_
    refine lv_bipush (v := (nI 80)) hx hb dX5_type_19 (by decide) ?_
    refine z_ne (tgt := 28) hx hb (by omega) (by omega) dX5_type_21 (by decide) (fun c21 => ?_) (fun c21 => ?_)
    · exact absurd ⟨c8, by omega⟩ hno
    · refine lv_sipush (v := (-1003)) hx hb dX5_type_24 (by decide) ?_
      exact w_reti hx hb hr hlocks hS (hP) (by unfold eIf; rw [if_pos c8]) dX5_type_27
  · refine lv_sipush (v := (-1001)) hx hb dX5_type_11 (by decide) ?_
    exact w_reti hx hb hr hlocks hS (hP) (by unfold eIf; rw [if_neg (bf c8)]) dX5_type_14
theorem i_c_X5_clearText_X5 : ∀ w ∈ wsX50, w ∈ wsX5_clearText := fun w h => (List.mem_cons_of_mem _ (List.mem_append_right _ h))
set_option maxRecDepth 100000 in
set_option maxHeartbeats 4000000 in
theorem c_X5_clearText (l : Launch) (D : va_G) (y : zY) (m : Nat) (d : Nat → Int32) (was : Nat → Int32) (as : Nat → Int32) (tx : Nat → Int32) (gt : Nat → Int32) (k : Nat) (pa : Int32) (rs : Int32) (len : Nat)  : Met l yX5_clearText wsX5_clearText ({ frames := 0, cells := 0, slots := 0, locals := 0 }) (zP [.ref m] (va_P D vwCl (mWs y m d was as tx gt (nI k) (nI len) pa rs)) D y) (zW (some (.int (nI len))) (va_P D vwCl (mWs y m d was as tx gt (nI k) (nI 0) pa rs)) (blk m 6)) 0 0 (blk m 6) := by
  refine z_body (cc := cX5_clearText) (maxL := 2) (ret := (some .int)) (la := [(0, .ref m)]) (by decide) rfl (Nat.le_of_ble_eq_true rfl) rfl ?_
  intro pg ev s mm below meth c0 ls hx hb hr hF hlocks hΦ hK hl _
  have hts := hF.2.2.2.2
  have hown : s.vm.findClass RX5 = some mm.cls := hF.2.2.2.1
  have hP : va_P D vwCl (mWs y m d was as tx gt (nI k) (nI len) pa rs) s.heap := hΦ
  have hS : va_S (blk m 6) s.heap s.heap [] := va_S.rf
  refine lv_aload_n hx hb dX5_clearText_0 rfl (lv_at hl 0 rfl) ?_
  refine z_get (fs := [.ref (m + 1), .ref (m + 2), .int (nI k), .ref (m + 3), .ref (m + 4), .int (nI len), .int pa, .int rs, .ref (m + 5)]) (ref := "CranePermitsModel") (C := RX5) (T := TX5) (N := 9) (ci := 5) (v := .int (nI len)) hx hb hts i_c_X5_clearText_X5 hown hK (hP 0 _ rfl) 5 (by decide) rfl (hts (.fieldLink RX5 117 "CranePermitsModel" "typed" "I") (List.mem_of_getElem? (i := 1) rfl)) rfl rfl dX5_clearText_1 ?_
  refine lv_istore_n (lv' := [(1, .int (nI len)), (0, .ref m)]) hx hb dX5_clearText_4 rfl hl (by decide) rfl (fun ls hl => ?_)
  refine lv_aload_n hx hb dX5_clearText_5 rfl (lv_at hl 1 rfl) ?_
  refine lv_iconst (v := (nI 0)) hx hb dX5_clearText_6 (by decide) ?_
  refine y_put (a := m) (fs := [.ref (m + 1), .ref (m + 2), .int (nI k), .ref (m + 3), .ref (m + 4), .int (nI len), .int pa, .int rs, .ref (m + 5)]) (ref := "CranePermitsModel") (C := RX5) (T := TX5) (N := 9) (ci := 5) (v := .int (nI 0)) (ty := .int) hx hb hts i_c_X5_clearText_X5 tyX5 tyX5_ok nmX5 hown hK (hP 0 _ rfl) 5 (by decide) rfl (hts (.fieldLink RX5 117 "CranePermitsModel" "typed" "I") (List.mem_of_getElem? (i := 1) rfl)) rfl rfl (by decide +kernel) (rfl) rfl (Nat.le_of_ble_eq_true rfl) dX5_clearText_7 (fun H1 x1 hU hV => ?_)
  have hS := hS.upd (x := x1) hU (blk_in (by omega) (by omega))
  have hP : va_P D vwCl (mWs y m d was as tx gt (nI k) (nI 0) pa rs) H1 := hP.upd (q0 := 0) mWs_D rfl hU hV
  clear hU hV
  refine lv_iload_n hx hb dX5_clearText_10 rfl (lv_at hl 0 rfl) ?_
  exact w_reti hx hb hr hlocks hS (hP) (rfl) dX5_clearText_11
