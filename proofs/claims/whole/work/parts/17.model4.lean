def f_X7_has_policy (y : Ky) : Int32 := if (7 : Int32) ≤ (y.1 1) then (if (y.2 (6)) = (32 : Int32) then (if (y.2 (5)) = (121 : Int32) then (if (y.2 (4)) = (99 : Int32) then (if (y.2 (3)) = (105 : Int32) then (if (y.2 (2)) = (108 : Int32) then (if (y.2 (1)) = (111 : Int32) then (if (y.2 (0)) = (112 : Int32) then (1 : Int32) else (0 : Int32)) else (0 : Int32)) else (0 : Int32)) else (0 : Int32)) else (0 : Int32)) else (0 : Int32)) else (0 : Int32)) else (0 : Int32)
set_option maxRecDepth 100000 in
set_option maxHeartbeats 4000000 in
theorem c_X7_has_policy {l : Launch} {D : va_G} {cI cB : ClassId} (qm mb ma me mr mn ms mk : Nat) (k : Cf) (v : Fn) (a : Fn) (y : Ky) : CI l X0 D cI cB yX7_has cX7_has 9 (some .boolean) 0 0 0 0 [.ref qm, .int (0 : Int32), .long (16151209032527 : Int64), .int (7 : Int32)] (wM cI qm mb ma me mr mn ms mk k v a y) (fun (r : Int32) (_ : Unit) => r = (f_X7_has_policy y)) (fun _ => (wM cI qm mb ma me mr mn ms mk k v a y)) := by
  refine CI.of (by decide) (Nat.le_of_ble_eq_true rfl) ?_
  intro p e s m below meth c A ls E hr hk hin hA hAA hX Y hl
  have E : EE p c cX7_has 9 s _ m RX7 D cI cB := E
  have hl : lv_has ls 9 [(0, .ref qm), (1, .int (0 : Int32)), (2, .long (16151209032527 : Int64)), (4, .int (7 : Int32))] := hl
  refine lv_iload_n E.1.1 E.1.2.1 dX7_has_0 rfl (lv_at hl 1 rfl) ?_
  refine lv_iload E.1.1 E.1.2.1 dX7_has_1 (lv_at hl 3 rfl) ?_
  refine lv_iadd E.1.1 E.1.2.1 dX7_has_3 ?_
  refine lv_cst (v := 7) (by decide) ?_
  refine lv_aload_n E.1.1 E.1.2.1 dX7_has_4 rfl (lv_at hl 0 rfl) ?_
  refine gf_X7_73 E Y 0 rfl rfl dX7_has_5 ?_
  refine lv_icmp_le (tgt := 13) E.1.1 E.1.2.1 dX7_has_8 (by decide) (fun c_8 => ?_) (fun c_8 => ?_)
  · skip
    refine lv_lload_n E.1.1 E.1.2.1 dX7_has_13 rfl (lv_at hl 2 rfl) ?_
    refine lv_lstore (lv' := [(5, .long (16151209032527 : Int64)), (0, .ref qm), (1, .int (0 : Int32)), (2, .long (16151209032527 : Int64)), (4, .int (7 : Int32))]) E.1.1 E.1.2.1 dX7_has_14 hl (by decide) rfl (fun ls hl => ?_)
    refine lv_iload E.1.1 E.1.2.1 dX7_has_16 (lv_at hl 4 rfl) ?_
    refine lv_iconst (v := 1) E.1.1 E.1.2.1 dX7_has_18 (by decide) ?_
    refine lv_isub E.1.1 E.1.2.1 dX7_has_19 ?_
    refine lv_cst (v := 6) (by decide) ?_
    refine lv_istore (lv' := [(7, .int (6 : Int32)), (5, .long (16151209032527 : Int64)), (0, .ref qm), (1, .int (0 : Int32)), (2, .long (16151209032527 : Int64)), (4, .int (7 : Int32))]) E.1.1 E.1.2.1 dX7_has_20 hl (by decide) rfl (fun ls hl => ?_)
    refine lv_iload E.1.1 E.1.2.1 dX7_has_22 (lv_at hl 0 rfl) ?_
    refine lv_if_lt (tgt := 81) E.1.1 E.1.2.1 dX7_has_24 (by decide) (fun c_24 => ?_) (fun c_24 => ?_)
    · exact absurd c_24 (by decide)
    · skip
      refine lv_lload E.1.1 E.1.2.1 dX7_has_27 (lv_at hl 1 rfl) ?_
      refine lv_ldc2 (v := 100) E.1.1 E.1.2.1 E.1.2.2.2.1 (E.1.2.2.2.2 _ mj_X7_76) dX7_has_29 ?_
      refine lv_lrem E.1.1 E.1.2.1 dX7_has_32 (by decide) ?_
      refine lv_cstl (v := 27) (by decide) ?_
      refine lv_l2i (v := 27) E.1.1 E.1.2.1 dX7_has_33 (by decide) ?_
      refine lv_istore (lv' := [(8, .int (27 : Int32)), (7, .int (6 : Int32)), (5, .long (16151209032527 : Int64)), (0, .ref qm), (1, .int (0 : Int32)), (2, .long (16151209032527 : Int64)), (4, .int (7 : Int32))]) E.1.1 E.1.2.1 dX7_has_34 hl (by decide) rfl (fun ls hl => ?_)
      refine lv_aload_n E.1.1 E.1.2.1 dX7_has_36 rfl (lv_at hl 3 rfl) ?_
      refine gf_X7_53 E Y 0 rfl rfl dX7_has_37 ?_
      refine lv_iload_n E.1.1 E.1.2.1 dX7_has_40 rfl (lv_at hl 4 rfl) ?_
      refine lv_iload E.1.1 E.1.2.1 dX7_has_41 (lv_at hl 1 rfl) ?_
      refine lv_iadd E.1.1 E.1.2.1 dX7_has_43 ?_
      refine lv_cst (v := 6) (by decide) ?_
      refine r_ial E Y 7 rfl (6) (by decide) (by unfold vp_in; decide) dX7_has_44 ?_
      refine lv_iload E.1.1 E.1.2.1 dX7_has_45 (lv_at hl 0 rfl) ?_
      refine lv_bipush (v := 27) E.1.1 E.1.2.1 dX7_has_47 (by decide) ?_
      refine lv_icmp_ne (tgt := 57) E.1.1 E.1.2.1 dX7_has_49 (by decide) (fun c_49 => ?_) (fun c_49 => ?_)
      · exact absurd (by decide) c_49
      · skip
        refine lv_bipush (v := 32) E.1.1 E.1.2.1 dX7_has_52 (by decide) ?_
        refine lv_goto (tgt := 62) E.1.1 E.1.2.1 dX7_has_54 (by decide) ?_
        refine lv_icmp_eq (tgt := 67) E.1.1 E.1.2.1 dX7_has_62 (by decide) (fun c_62 => ?_) (fun c_62 => ?_)
        · skip
          refine lv_lload E.1.1 E.1.2.1 dX7_has_67 (lv_at hl 2 rfl) ?_
          refine lv_ldc2 (v := 100) E.1.1 E.1.2.1 E.1.2.2.2.1 (E.1.2.2.2.2 _ mj_X7_76) dX7_has_69 ?_
          refine lv_ldiv E.1.1 E.1.2.1 dX7_has_72 (by decide) ?_
          refine lv_cstl (v := 161512090325) (by decide) ?_
          refine lv_lstore (lv' := [(5, .long (161512090325 : Int64)), (8, .int (27 : Int32)), (7, .int (6 : Int32)), (0, .ref qm), (1, .int (0 : Int32)), (2, .long (16151209032527 : Int64)), (4, .int (7 : Int32))]) E.1.1 E.1.2.1 dX7_has_73 hl (by decide) rfl (fun ls hl => ?_)
          refine lv_iinc (v := (5 : Int32)) (lv' := [(7, .int (5 : Int32)), (5, .long (161512090325 : Int64)), (8, .int (27 : Int32)), (0, .ref qm), (1, .int (0 : Int32)), (2, .long (16151209032527 : Int64)), (4, .int (7 : Int32))]) E.1.1 E.1.2.1 dX7_has_75 hl (k := 2) rfl (by decide) (by decide) rfl (fun ls hl => ?_)
          refine lv_goto (tgt := 22) E.1.1 E.1.2.1 dX7_has_78 (by decide) ?_
          refine lv_iload E.1.1 E.1.2.1 dX7_has_22 (lv_at hl 0 rfl) ?_
          refine lv_if_lt (tgt := 81) E.1.1 E.1.2.1 dX7_has_24 (by decide) (fun c_24 => ?_) (fun c_24 => ?_)
          · exact absurd c_24 (by decide)
          · skip
            refine lv_lload E.1.1 E.1.2.1 dX7_has_27 (lv_at hl 1 rfl) ?_
            refine lv_ldc2 (v := 100) E.1.1 E.1.2.1 E.1.2.2.2.1 (E.1.2.2.2.2 _ mj_X7_76) dX7_has_29 ?_
            refine lv_lrem E.1.1 E.1.2.1 dX7_has_32 (by decide) ?_
            refine lv_cstl (v := 25) (by decide) ?_
            refine lv_l2i (v := 25) E.1.1 E.1.2.1 dX7_has_33 (by decide) ?_
            refine lv_istore (lv' := [(8, .int (25 : Int32)), (7, .int (5 : Int32)), (5, .long (161512090325 : Int64)), (0, .ref qm), (1, .int (0 : Int32)), (2, .long (16151209032527 : Int64)), (4, .int (7 : Int32))]) E.1.1 E.1.2.1 dX7_has_34 hl (by decide) rfl (fun ls hl => ?_)
            refine lv_aload_n E.1.1 E.1.2.1 dX7_has_36 rfl (lv_at hl 3 rfl) ?_
            refine gf_X7_53 E Y 0 rfl rfl dX7_has_37 ?_
            refine lv_iload_n E.1.1 E.1.2.1 dX7_has_40 rfl (lv_at hl 4 rfl) ?_
            refine lv_iload E.1.1 E.1.2.1 dX7_has_41 (lv_at hl 1 rfl) ?_
            refine lv_iadd E.1.1 E.1.2.1 dX7_has_43 ?_
            refine lv_cst (v := 5) (by decide) ?_
            refine r_ial E Y 7 rfl (5) (by decide) (by unfold vp_in; decide) dX7_has_44 ?_
            refine lv_iload E.1.1 E.1.2.1 dX7_has_45 (lv_at hl 0 rfl) ?_
            refine lv_bipush (v := 27) E.1.1 E.1.2.1 dX7_has_47 (by decide) ?_
            refine lv_icmp_ne (tgt := 57) E.1.1 E.1.2.1 dX7_has_49 (by decide) (fun c_49 => ?_) (fun c_49 => ?_)
            · skip
              refine lv_bipush (v := 96) E.1.1 E.1.2.1 dX7_has_57 (by decide) ?_
              refine lv_iload E.1.1 E.1.2.1 dX7_has_59 (lv_at hl 0 rfl) ?_
              refine lv_iadd E.1.1 E.1.2.1 dX7_has_61 ?_
              refine lv_cst (v := 121) (by decide) ?_
              refine lv_icmp_eq (tgt := 67) E.1.1 E.1.2.1 dX7_has_62 (by decide) (fun c_62_r1 => ?_) (fun c_62_r1 => ?_)
              · skip
                refine lv_lload E.1.1 E.1.2.1 dX7_has_67 (lv_at hl 2 rfl) ?_
                refine lv_ldc2 (v := 100) E.1.1 E.1.2.1 E.1.2.2.2.1 (E.1.2.2.2.2 _ mj_X7_76) dX7_has_69 ?_
                refine lv_ldiv E.1.1 E.1.2.1 dX7_has_72 (by decide) ?_
                refine lv_cstl (v := 1615120903) (by decide) ?_
                refine lv_lstore (lv' := [(5, .long (1615120903 : Int64)), (8, .int (25 : Int32)), (7, .int (5 : Int32)), (0, .ref qm), (1, .int (0 : Int32)), (2, .long (16151209032527 : Int64)), (4, .int (7 : Int32))]) E.1.1 E.1.2.1 dX7_has_73 hl (by decide) rfl (fun ls hl => ?_)
                refine lv_iinc (v := (4 : Int32)) (lv' := [(7, .int (4 : Int32)), (5, .long (1615120903 : Int64)), (8, .int (25 : Int32)), (0, .ref qm), (1, .int (0 : Int32)), (2, .long (16151209032527 : Int64)), (4, .int (7 : Int32))]) E.1.1 E.1.2.1 dX7_has_75 hl (k := 2) rfl (by decide) (by decide) rfl (fun ls hl => ?_)
                refine lv_goto (tgt := 22) E.1.1 E.1.2.1 dX7_has_78 (by decide) ?_
                refine lv_iload E.1.1 E.1.2.1 dX7_has_22 (lv_at hl 0 rfl) ?_
                refine lv_if_lt (tgt := 81) E.1.1 E.1.2.1 dX7_has_24 (by decide) (fun c_24 => ?_) (fun c_24 => ?_)
                · exact absurd c_24 (by decide)
                · skip
                  refine lv_lload E.1.1 E.1.2.1 dX7_has_27 (lv_at hl 1 rfl) ?_
                  refine lv_ldc2 (v := 100) E.1.1 E.1.2.1 E.1.2.2.2.1 (E.1.2.2.2.2 _ mj_X7_76) dX7_has_29 ?_
                  refine lv_lrem E.1.1 E.1.2.1 dX7_has_32 (by decide) ?_
                  refine lv_cstl (v := 3) (by decide) ?_
                  refine lv_l2i (v := 3) E.1.1 E.1.2.1 dX7_has_33 (by decide) ?_
                  refine lv_istore (lv' := [(8, .int (3 : Int32)), (7, .int (4 : Int32)), (5, .long (1615120903 : Int64)), (0, .ref qm), (1, .int (0 : Int32)), (2, .long (16151209032527 : Int64)), (4, .int (7 : Int32))]) E.1.1 E.1.2.1 dX7_has_34 hl (by decide) rfl (fun ls hl => ?_)
                  refine lv_aload_n E.1.1 E.1.2.1 dX7_has_36 rfl (lv_at hl 3 rfl) ?_
                  refine gf_X7_53 E Y 0 rfl rfl dX7_has_37 ?_
                  refine lv_iload_n E.1.1 E.1.2.1 dX7_has_40 rfl (lv_at hl 4 rfl) ?_
                  refine lv_iload E.1.1 E.1.2.1 dX7_has_41 (lv_at hl 1 rfl) ?_
                  refine lv_iadd E.1.1 E.1.2.1 dX7_has_43 ?_
                  refine lv_cst (v := 4) (by decide) ?_
                  refine r_ial E Y 7 rfl (4) (by decide) (by unfold vp_in; decide) dX7_has_44 ?_
                  refine lv_iload E.1.1 E.1.2.1 dX7_has_45 (lv_at hl 0 rfl) ?_
                  refine lv_bipush (v := 27) E.1.1 E.1.2.1 dX7_has_47 (by decide) ?_
                  refine lv_icmp_ne (tgt := 57) E.1.1 E.1.2.1 dX7_has_49 (by decide) (fun c_49 => ?_) (fun c_49 => ?_)
                  · skip
                    refine lv_bipush (v := 96) E.1.1 E.1.2.1 dX7_has_57 (by decide) ?_
                    refine lv_iload E.1.1 E.1.2.1 dX7_has_59 (lv_at hl 0 rfl) ?_
                    refine lv_iadd E.1.1 E.1.2.1 dX7_has_61 ?_
                    refine lv_cst (v := 99) (by decide) ?_
                    refine lv_icmp_eq (tgt := 67) E.1.1 E.1.2.1 dX7_has_62 (by decide) (fun c_62_r2 => ?_) (fun c_62_r2 => ?_)
                    · skip
                      refine lv_lload E.1.1 E.1.2.1 dX7_has_67 (lv_at hl 2 rfl) ?_
                      refine lv_ldc2 (v := 100) E.1.1 E.1.2.1 E.1.2.2.2.1 (E.1.2.2.2.2 _ mj_X7_76) dX7_has_69 ?_
                      refine lv_ldiv E.1.1 E.1.2.1 dX7_has_72 (by decide) ?_
                      refine lv_cstl (v := 16151209) (by decide) ?_
                      refine lv_lstore (lv' := [(5, .long (16151209 : Int64)), (8, .int (3 : Int32)), (7, .int (4 : Int32)), (0, .ref qm), (1, .int (0 : Int32)), (2, .long (16151209032527 : Int64)), (4, .int (7 : Int32))]) E.1.1 E.1.2.1 dX7_has_73 hl (by decide) rfl (fun ls hl => ?_)
                      refine lv_iinc (v := (3 : Int32)) (lv' := [(7, .int (3 : Int32)), (5, .long (16151209 : Int64)), (8, .int (3 : Int32)), (0, .ref qm), (1, .int (0 : Int32)), (2, .long (16151209032527 : Int64)), (4, .int (7 : Int32))]) E.1.1 E.1.2.1 dX7_has_75 hl (k := 2) rfl (by decide) (by decide) rfl (fun ls hl => ?_)
                      refine lv_goto (tgt := 22) E.1.1 E.1.2.1 dX7_has_78 (by decide) ?_
                      refine lv_iload E.1.1 E.1.2.1 dX7_has_22 (lv_at hl 0 rfl) ?_
                      refine lv_if_lt (tgt := 81) E.1.1 E.1.2.1 dX7_has_24 (by decide) (fun c_24 => ?_) (fun c_24 => ?_)
                      · exact absurd c_24 (by decide)
                      · skip
                        refine lv_lload E.1.1 E.1.2.1 dX7_has_27 (lv_at hl 1 rfl) ?_
                        refine lv_ldc2 (v := 100) E.1.1 E.1.2.1 E.1.2.2.2.1 (E.1.2.2.2.2 _ mj_X7_76) dX7_has_29 ?_
                        refine lv_lrem E.1.1 E.1.2.1 dX7_has_32 (by decide) ?_
                        refine lv_cstl (v := 9) (by decide) ?_
                        refine lv_l2i (v := 9) E.1.1 E.1.2.1 dX7_has_33 (by decide) ?_
                        refine lv_istore (lv' := [(8, .int (9 : Int32)), (7, .int (3 : Int32)), (5, .long (16151209 : Int64)), (0, .ref qm), (1, .int (0 : Int32)), (2, .long (16151209032527 : Int64)), (4, .int (7 : Int32))]) E.1.1 E.1.2.1 dX7_has_34 hl (by decide) rfl (fun ls hl => ?_)
                        refine lv_aload_n E.1.1 E.1.2.1 dX7_has_36 rfl (lv_at hl 3 rfl) ?_
                        refine gf_X7_53 E Y 0 rfl rfl dX7_has_37 ?_
                        refine lv_iload_n E.1.1 E.1.2.1 dX7_has_40 rfl (lv_at hl 4 rfl) ?_
                        refine lv_iload E.1.1 E.1.2.1 dX7_has_41 (lv_at hl 1 rfl) ?_
                        refine lv_iadd E.1.1 E.1.2.1 dX7_has_43 ?_
                        refine lv_cst (v := 3) (by decide) ?_
                        refine r_ial E Y 7 rfl (3) (by decide) (by unfold vp_in; decide) dX7_has_44 ?_
                        refine lv_iload E.1.1 E.1.2.1 dX7_has_45 (lv_at hl 0 rfl) ?_
                        refine lv_bipush (v := 27) E.1.1 E.1.2.1 dX7_has_47 (by decide) ?_
                        refine lv_icmp_ne (tgt := 57) E.1.1 E.1.2.1 dX7_has_49 (by decide) (fun c_49 => ?_) (fun c_49 => ?_)
                        · skip
                          refine lv_bipush (v := 96) E.1.1 E.1.2.1 dX7_has_57 (by decide) ?_
                          refine lv_iload E.1.1 E.1.2.1 dX7_has_59 (lv_at hl 0 rfl) ?_
                          refine lv_iadd E.1.1 E.1.2.1 dX7_has_61 ?_
                          refine lv_cst (v := 105) (by decide) ?_
                          refine lv_icmp_eq (tgt := 67) E.1.1 E.1.2.1 dX7_has_62 (by decide) (fun c_62_r3 => ?_) (fun c_62_r3 => ?_)
                          · skip
                            refine lv_lload E.1.1 E.1.2.1 dX7_has_67 (lv_at hl 2 rfl) ?_
                            refine lv_ldc2 (v := 100) E.1.1 E.1.2.1 E.1.2.2.2.1 (E.1.2.2.2.2 _ mj_X7_76) dX7_has_69 ?_
                            refine lv_ldiv E.1.1 E.1.2.1 dX7_has_72 (by decide) ?_
                            refine lv_cstl (v := 161512) (by decide) ?_
                            refine lv_lstore (lv' := [(5, .long (161512 : Int64)), (8, .int (9 : Int32)), (7, .int (3 : Int32)), (0, .ref qm), (1, .int (0 : Int32)), (2, .long (16151209032527 : Int64)), (4, .int (7 : Int32))]) E.1.1 E.1.2.1 dX7_has_73 hl (by decide) rfl (fun ls hl => ?_)
                            refine lv_iinc (v := (2 : Int32)) (lv' := [(7, .int (2 : Int32)), (5, .long (161512 : Int64)), (8, .int (9 : Int32)), (0, .ref qm), (1, .int (0 : Int32)), (2, .long (16151209032527 : Int64)), (4, .int (7 : Int32))]) E.1.1 E.1.2.1 dX7_has_75 hl (k := 2) rfl (by decide) (by decide) rfl (fun ls hl => ?_)
                            refine lv_goto (tgt := 22) E.1.1 E.1.2.1 dX7_has_78 (by decide) ?_
                            refine lv_iload E.1.1 E.1.2.1 dX7_has_22 (lv_at hl 0 rfl) ?_
                            refine lv_if_lt (tgt := 81) E.1.1 E.1.2.1 dX7_has_24 (by decide) (fun c_24 => ?_) (fun c_24 => ?_)
                            · exact absurd c_24 (by decide)
                            · skip
                              refine lv_lload E.1.1 E.1.2.1 dX7_has_27 (lv_at hl 1 rfl) ?_
                              refine lv_ldc2 (v := 100) E.1.1 E.1.2.1 E.1.2.2.2.1 (E.1.2.2.2.2 _ mj_X7_76) dX7_has_29 ?_
                              refine lv_lrem E.1.1 E.1.2.1 dX7_has_32 (by decide) ?_
                              refine lv_cstl (v := 12) (by decide) ?_
                              refine lv_l2i (v := 12) E.1.1 E.1.2.1 dX7_has_33 (by decide) ?_
                              refine lv_istore (lv' := [(8, .int (12 : Int32)), (7, .int (2 : Int32)), (5, .long (161512 : Int64)), (0, .ref qm), (1, .int (0 : Int32)), (2, .long (16151209032527 : Int64)), (4, .int (7 : Int32))]) E.1.1 E.1.2.1 dX7_has_34 hl (by decide) rfl (fun ls hl => ?_)
                              refine lv_aload_n E.1.1 E.1.2.1 dX7_has_36 rfl (lv_at hl 3 rfl) ?_
                              refine gf_X7_53 E Y 0 rfl rfl dX7_has_37 ?_
                              refine lv_iload_n E.1.1 E.1.2.1 dX7_has_40 rfl (lv_at hl 4 rfl) ?_
                              refine lv_iload E.1.1 E.1.2.1 dX7_has_41 (lv_at hl 1 rfl) ?_
                              refine lv_iadd E.1.1 E.1.2.1 dX7_has_43 ?_
                              refine lv_cst (v := 2) (by decide) ?_
                              refine r_ial E Y 7 rfl (2) (by decide) (by unfold vp_in; decide) dX7_has_44 ?_
                              refine lv_iload E.1.1 E.1.2.1 dX7_has_45 (lv_at hl 0 rfl) ?_
                              refine lv_bipush (v := 27) E.1.1 E.1.2.1 dX7_has_47 (by decide) ?_
                              refine lv_icmp_ne (tgt := 57) E.1.1 E.1.2.1 dX7_has_49 (by decide) (fun c_49 => ?_) (fun c_49 => ?_)
                              · skip
                                refine lv_bipush (v := 96) E.1.1 E.1.2.1 dX7_has_57 (by decide) ?_
                                refine lv_iload E.1.1 E.1.2.1 dX7_has_59 (lv_at hl 0 rfl) ?_
                                refine lv_iadd E.1.1 E.1.2.1 dX7_has_61 ?_
                                refine lv_cst (v := 108) (by decide) ?_
                                refine lv_icmp_eq (tgt := 67) E.1.1 E.1.2.1 dX7_has_62 (by decide) (fun c_62_r4 => ?_) (fun c_62_r4 => ?_)
                                · skip
                                  refine lv_lload E.1.1 E.1.2.1 dX7_has_67 (lv_at hl 2 rfl) ?_
                                  refine lv_ldc2 (v := 100) E.1.1 E.1.2.1 E.1.2.2.2.1 (E.1.2.2.2.2 _ mj_X7_76) dX7_has_69 ?_
                                  refine lv_ldiv E.1.1 E.1.2.1 dX7_has_72 (by decide) ?_
                                  refine lv_cstl (v := 1615) (by decide) ?_
                                  refine lv_lstore (lv' := [(5, .long (1615 : Int64)), (8, .int (12 : Int32)), (7, .int (2 : Int32)), (0, .ref qm), (1, .int (0 : Int32)), (2, .long (16151209032527 : Int64)), (4, .int (7 : Int32))]) E.1.1 E.1.2.1 dX7_has_73 hl (by decide) rfl (fun ls hl => ?_)
                                  refine lv_iinc (v := (1 : Int32)) (lv' := [(7, .int (1 : Int32)), (5, .long (1615 : Int64)), (8, .int (12 : Int32)), (0, .ref qm), (1, .int (0 : Int32)), (2, .long (16151209032527 : Int64)), (4, .int (7 : Int32))]) E.1.1 E.1.2.1 dX7_has_75 hl (k := 2) rfl (by decide) (by decide) rfl (fun ls hl => ?_)
                                  refine lv_goto (tgt := 22) E.1.1 E.1.2.1 dX7_has_78 (by decide) ?_
                                  refine lv_iload E.1.1 E.1.2.1 dX7_has_22 (lv_at hl 0 rfl) ?_
                                  refine lv_if_lt (tgt := 81) E.1.1 E.1.2.1 dX7_has_24 (by decide) (fun c_24 => ?_) (fun c_24 => ?_)
                                  · exact absurd c_24 (by decide)
                                  · skip
                                    refine lv_lload E.1.1 E.1.2.1 dX7_has_27 (lv_at hl 1 rfl) ?_
                                    refine lv_ldc2 (v := 100) E.1.1 E.1.2.1 E.1.2.2.2.1 (E.1.2.2.2.2 _ mj_X7_76) dX7_has_29 ?_
                                    refine lv_lrem E.1.1 E.1.2.1 dX7_has_32 (by decide) ?_
                                    refine lv_cstl (v := 15) (by decide) ?_
                                    refine lv_l2i (v := 15) E.1.1 E.1.2.1 dX7_has_33 (by decide) ?_
                                    refine lv_istore (lv' := [(8, .int (15 : Int32)), (7, .int (1 : Int32)), (5, .long (1615 : Int64)), (0, .ref qm), (1, .int (0 : Int32)), (2, .long (16151209032527 : Int64)), (4, .int (7 : Int32))]) E.1.1 E.1.2.1 dX7_has_34 hl (by decide) rfl (fun ls hl => ?_)
                                    refine lv_aload_n E.1.1 E.1.2.1 dX7_has_36 rfl (lv_at hl 3 rfl) ?_
                                    refine gf_X7_53 E Y 0 rfl rfl dX7_has_37 ?_
                                    refine lv_iload_n E.1.1 E.1.2.1 dX7_has_40 rfl (lv_at hl 4 rfl) ?_
                                    refine lv_iload E.1.1 E.1.2.1 dX7_has_41 (lv_at hl 1 rfl) ?_
                                    refine lv_iadd E.1.1 E.1.2.1 dX7_has_43 ?_
                                    refine lv_cst (v := 1) (by decide) ?_
                                    refine r_ial E Y 7 rfl (1) (by decide) (by unfold vp_in; decide) dX7_has_44 ?_
                                    refine lv_iload E.1.1 E.1.2.1 dX7_has_45 (lv_at hl 0 rfl) ?_
                                    refine lv_bipush (v := 27) E.1.1 E.1.2.1 dX7_has_47 (by decide) ?_
                                    refine lv_icmp_ne (tgt := 57) E.1.1 E.1.2.1 dX7_has_49 (by decide) (fun c_49 => ?_) (fun c_49 => ?_)
                                    · skip
                                      refine lv_bipush (v := 96) E.1.1 E.1.2.1 dX7_has_57 (by decide) ?_
                                      refine lv_iload E.1.1 E.1.2.1 dX7_has_59 (lv_at hl 0 rfl) ?_
                                      refine lv_iadd E.1.1 E.1.2.1 dX7_has_61 ?_
                                      refine lv_cst (v := 111) (by decide) ?_
                                      refine lv_icmp_eq (tgt := 67) E.1.1 E.1.2.1 dX7_has_62 (by decide) (fun c_62_r5 => ?_) (fun c_62_r5 => ?_)
                                      · skip
                                        refine lv_lload E.1.1 E.1.2.1 dX7_has_67 (lv_at hl 2 rfl) ?_
                                        refine lv_ldc2 (v := 100) E.1.1 E.1.2.1 E.1.2.2.2.1 (E.1.2.2.2.2 _ mj_X7_76) dX7_has_69 ?_
                                        refine lv_ldiv E.1.1 E.1.2.1 dX7_has_72 (by decide) ?_
                                        refine lv_cstl (v := 16) (by decide) ?_
                                        refine lv_lstore (lv' := [(5, .long (16 : Int64)), (8, .int (15 : Int32)), (7, .int (1 : Int32)), (0, .ref qm), (1, .int (0 : Int32)), (2, .long (16151209032527 : Int64)), (4, .int (7 : Int32))]) E.1.1 E.1.2.1 dX7_has_73 hl (by decide) rfl (fun ls hl => ?_)
                                        refine lv_iinc (v := (0 : Int32)) (lv' := [(7, .int (0 : Int32)), (5, .long (16 : Int64)), (8, .int (15 : Int32)), (0, .ref qm), (1, .int (0 : Int32)), (2, .long (16151209032527 : Int64)), (4, .int (7 : Int32))]) E.1.1 E.1.2.1 dX7_has_75 hl (k := 2) rfl (by decide) (by decide) rfl (fun ls hl => ?_)
                                        refine lv_goto (tgt := 22) E.1.1 E.1.2.1 dX7_has_78 (by decide) ?_
                                        refine lv_iload E.1.1 E.1.2.1 dX7_has_22 (lv_at hl 0 rfl) ?_
                                        refine lv_if_lt (tgt := 81) E.1.1 E.1.2.1 dX7_has_24 (by decide) (fun c_24 => ?_) (fun c_24 => ?_)
                                        · exact absurd c_24 (by decide)
                                        · skip
                                          refine lv_lload E.1.1 E.1.2.1 dX7_has_27 (lv_at hl 1 rfl) ?_
                                          refine lv_ldc2 (v := 100) E.1.1 E.1.2.1 E.1.2.2.2.1 (E.1.2.2.2.2 _ mj_X7_76) dX7_has_29 ?_
                                          refine lv_lrem E.1.1 E.1.2.1 dX7_has_32 (by decide) ?_
                                          refine lv_cstl (v := 16) (by decide) ?_
                                          refine lv_l2i (v := 16) E.1.1 E.1.2.1 dX7_has_33 (by decide) ?_
                                          refine lv_istore (lv' := [(8, .int (16 : Int32)), (7, .int (0 : Int32)), (5, .long (16 : Int64)), (0, .ref qm), (1, .int (0 : Int32)), (2, .long (16151209032527 : Int64)), (4, .int (7 : Int32))]) E.1.1 E.1.2.1 dX7_has_34 hl (by decide) rfl (fun ls hl => ?_)
                                          refine lv_aload_n E.1.1 E.1.2.1 dX7_has_36 rfl (lv_at hl 3 rfl) ?_
                                          refine gf_X7_53 E Y 0 rfl rfl dX7_has_37 ?_
                                          refine lv_iload_n E.1.1 E.1.2.1 dX7_has_40 rfl (lv_at hl 4 rfl) ?_
                                          refine lv_iload E.1.1 E.1.2.1 dX7_has_41 (lv_at hl 1 rfl) ?_
                                          refine lv_iadd E.1.1 E.1.2.1 dX7_has_43 ?_
                                          refine lv_cst (v := 0) (by decide) ?_
                                          refine r_ial E Y 7 rfl (0) (by decide) (by unfold vp_in; decide) dX7_has_44 ?_
                                          refine lv_iload E.1.1 E.1.2.1 dX7_has_45 (lv_at hl 0 rfl) ?_
                                          refine lv_bipush (v := 27) E.1.1 E.1.2.1 dX7_has_47 (by decide) ?_
                                          refine lv_icmp_ne (tgt := 57) E.1.1 E.1.2.1 dX7_has_49 (by decide) (fun c_49 => ?_) (fun c_49 => ?_)
                                          · skip
                                            refine lv_bipush (v := 96) E.1.1 E.1.2.1 dX7_has_57 (by decide) ?_
                                            refine lv_iload E.1.1 E.1.2.1 dX7_has_59 (lv_at hl 0 rfl) ?_
                                            refine lv_iadd E.1.1 E.1.2.1 dX7_has_61 ?_
                                            refine lv_cst (v := 112) (by decide) ?_
                                            refine lv_icmp_eq (tgt := 67) E.1.1 E.1.2.1 dX7_has_62 (by decide) (fun c_62_r6 => ?_) (fun c_62_r6 => ?_)
                                            · skip
                                              refine lv_lload E.1.1 E.1.2.1 dX7_has_67 (lv_at hl 2 rfl) ?_
                                              refine lv_ldc2 (v := 100) E.1.1 E.1.2.1 E.1.2.2.2.1 (E.1.2.2.2.2 _ mj_X7_76) dX7_has_69 ?_
                                              refine lv_ldiv E.1.1 E.1.2.1 dX7_has_72 (by decide) ?_
                                              refine lv_cstl (v := 0) (by decide) ?_
                                              refine lv_lstore (lv' := [(5, .long (0 : Int64)), (8, .int (16 : Int32)), (7, .int (0 : Int32)), (0, .ref qm), (1, .int (0 : Int32)), (2, .long (16151209032527 : Int64)), (4, .int (7 : Int32))]) E.1.1 E.1.2.1 dX7_has_73 hl (by decide) rfl (fun ls hl => ?_)
                                              refine lv_iinc (v := (-1 : Int32)) (lv' := [(7, .int (-1 : Int32)), (5, .long (0 : Int64)), (8, .int (16 : Int32)), (0, .ref qm), (1, .int (0 : Int32)), (2, .long (16151209032527 : Int64)), (4, .int (7 : Int32))]) E.1.1 E.1.2.1 dX7_has_75 hl (k := 2) rfl (by decide) (by decide) rfl (fun ls hl => ?_)
                                              refine lv_goto (tgt := 22) E.1.1 E.1.2.1 dX7_has_78 (by decide) ?_
                                              refine lv_iload E.1.1 E.1.2.1 dX7_has_22 (lv_at hl 0 rfl) ?_
                                              refine lv_if_lt (tgt := 81) E.1.1 E.1.2.1 dX7_has_24 (by decide) (fun c_24 => ?_) (fun c_24 => ?_)
                                              · skip
                                                refine lv_iconst (v := 1) E.1.1 E.1.2.1 dX7_has_81 (by decide) ?_
                                                have e9 : (f_X7_has_policy y) = (1 : Int32) := (if_pos c_8).trans ((if_pos c_62).trans ((if_pos c_62_r1).trans ((if_pos c_62_r2).trans ((if_pos c_62_r3).trans ((if_pos c_62_r4).trans ((if_pos c_62_r5).trans ((if_pos c_62_r6).trans (rfl))))))))
                                                exact r_zret E Y hr hk (1 : Int32) rfl () (e9.symm) rfl ⟨Nat.le_of_ble_eq_true rfl, Nat.le_of_ble_eq_true rfl⟩ dX7_has_82
                                              · exact absurd (by decide) c_24
                                            · skip
                                              refine lv_iconst (v := 0) E.1.1 E.1.2.1 dX7_has_65 (by decide) ?_
                                              have e9 : (f_X7_has_policy y) = (0 : Int32) := (if_pos c_8).trans ((if_pos c_62).trans ((if_pos c_62_r1).trans ((if_pos c_62_r2).trans ((if_pos c_62_r3).trans ((if_pos c_62_r4).trans ((if_pos c_62_r5).trans ((if_neg c_62_r6).trans (rfl))))))))
                                              exact r_zret E Y hr hk (0 : Int32) rfl () (e9.symm) rfl ⟨Nat.le_of_ble_eq_true rfl, Nat.le_of_ble_eq_true rfl⟩ dX7_has_66
                                          · exact absurd c_49 (by decide)
                                      · skip
                                        refine lv_iconst (v := 0) E.1.1 E.1.2.1 dX7_has_65 (by decide) ?_
                                        have e9 : (f_X7_has_policy y) = (0 : Int32) := (if_pos c_8).trans ((if_pos c_62).trans ((if_pos c_62_r1).trans ((if_pos c_62_r2).trans ((if_pos c_62_r3).trans ((if_pos c_62_r4).trans ((if_neg c_62_r5).trans (rfl)))))))
                                        exact r_zret E Y hr hk (0 : Int32) rfl () (e9.symm) rfl ⟨Nat.le_of_ble_eq_true rfl, Nat.le_of_ble_eq_true rfl⟩ dX7_has_66
                                    · exact absurd c_49 (by decide)
                                · skip
                                  refine lv_iconst (v := 0) E.1.1 E.1.2.1 dX7_has_65 (by decide) ?_
                                  have e9 : (f_X7_has_policy y) = (0 : Int32) := (if_pos c_8).trans ((if_pos c_62).trans ((if_pos c_62_r1).trans ((if_pos c_62_r2).trans ((if_pos c_62_r3).trans ((if_neg c_62_r4).trans (rfl))))))
                                  exact r_zret E Y hr hk (0 : Int32) rfl () (e9.symm) rfl ⟨Nat.le_of_ble_eq_true rfl, Nat.le_of_ble_eq_true rfl⟩ dX7_has_66
                              · exact absurd c_49 (by decide)
                          · skip
                            refine lv_iconst (v := 0) E.1.1 E.1.2.1 dX7_has_65 (by decide) ?_
                            have e9 : (f_X7_has_policy y) = (0 : Int32) := (if_pos c_8).trans ((if_pos c_62).trans ((if_pos c_62_r1).trans ((if_pos c_62_r2).trans ((if_neg c_62_r3).trans (rfl)))))
                            exact r_zret E Y hr hk (0 : Int32) rfl () (e9.symm) rfl ⟨Nat.le_of_ble_eq_true rfl, Nat.le_of_ble_eq_true rfl⟩ dX7_has_66
                        · exact absurd c_49 (by decide)
                    · skip
                      refine lv_iconst (v := 0) E.1.1 E.1.2.1 dX7_has_65 (by decide) ?_
                      have e9 : (f_X7_has_policy y) = (0 : Int32) := (if_pos c_8).trans ((if_pos c_62).trans ((if_pos c_62_r1).trans ((if_neg c_62_r2).trans (rfl))))
                      exact r_zret E Y hr hk (0 : Int32) rfl () (e9.symm) rfl ⟨Nat.le_of_ble_eq_true rfl, Nat.le_of_ble_eq_true rfl⟩ dX7_has_66
                  · exact absurd c_49 (by decide)
              · skip
                refine lv_iconst (v := 0) E.1.1 E.1.2.1 dX7_has_65 (by decide) ?_
                have e9 : (f_X7_has_policy y) = (0 : Int32) := (if_pos c_8).trans ((if_pos c_62).trans ((if_neg c_62_r1).trans (rfl)))
                exact r_zret E Y hr hk (0 : Int32) rfl () (e9.symm) rfl ⟨Nat.le_of_ble_eq_true rfl, Nat.le_of_ble_eq_true rfl⟩ dX7_has_66
            · exact absurd c_49 (by decide)
        · skip
          refine lv_iconst (v := 0) E.1.1 E.1.2.1 dX7_has_65 (by decide) ?_
          have e9 : (f_X7_has_policy y) = (0 : Int32) := (if_pos c_8).trans ((if_neg c_62).trans (rfl))
          exact r_zret E Y hr hk (0 : Int32) rfl () (e9.symm) rfl ⟨Nat.le_of_ble_eq_true rfl, Nat.le_of_ble_eq_true rfl⟩ dX7_has_66
  · skip
    refine lv_iconst (v := 0) E.1.1 E.1.2.1 dX7_has_11 (by decide) ?_
    have e9 : (f_X7_has_policy y) = (0 : Int32) := (if_neg c_8).trans (rfl)
    exact r_zret E Y hr hk (0 : Int32) rfl () (e9.symm) rfl ⟨Nat.le_of_ble_eq_true rfl, Nat.le_of_ble_eq_true rfl⟩ dX7_has_12

def f_X7_has_cap (y : Ky) : Int32 := if (4 : Int32) ≤ (y.1 1) then (if (y.2 (3)) = (32 : Int32) then (if (y.2 (2)) = (112 : Int32) then (if (y.2 (1)) = (97 : Int32) then (if (y.2 (0)) = (99 : Int32) then (1 : Int32) else (0 : Int32)) else (0 : Int32)) else (0 : Int32)) else (0 : Int32)) else (0 : Int32)
set_option maxRecDepth 100000 in
set_option maxHeartbeats 4000000 in
theorem c_X7_has_cap {l : Launch} {D : va_G} {cI cB : ClassId} (qm mb ma me mr mn ms mk : Nat) (k : Cf) (v : Fn) (a : Fn) (y : Ky) : CI l X0 D cI cB yX7_has cX7_has 9 (some .boolean) 0 0 0 0 [.ref qm, .int (0 : Int32), .long (3011627 : Int64), .int (4 : Int32)] (wM cI qm mb ma me mr mn ms mk k v a y) (fun (r : Int32) (_ : Unit) => r = (f_X7_has_cap y)) (fun _ => (wM cI qm mb ma me mr mn ms mk k v a y)) := by
  refine CI.of (by decide) (Nat.le_of_ble_eq_true rfl) ?_
  intro p e s m below meth c A ls E hr hk hin hA hAA hX Y hl
  have E : EE p c cX7_has 9 s _ m RX7 D cI cB := E
  have hl : lv_has ls 9 [(0, .ref qm), (1, .int (0 : Int32)), (2, .long (3011627 : Int64)), (4, .int (4 : Int32))] := hl
  refine lv_iload_n E.1.1 E.1.2.1 dX7_has_0 rfl (lv_at hl 1 rfl) ?_
  refine lv_iload E.1.1 E.1.2.1 dX7_has_1 (lv_at hl 3 rfl) ?_
  refine lv_iadd E.1.1 E.1.2.1 dX7_has_3 ?_
  refine lv_cst (v := 4) (by decide) ?_
  refine lv_aload_n E.1.1 E.1.2.1 dX7_has_4 rfl (lv_at hl 0 rfl) ?_
  refine gf_X7_73 E Y 0 rfl rfl dX7_has_5 ?_
  refine lv_icmp_le (tgt := 13) E.1.1 E.1.2.1 dX7_has_8 (by decide) (fun c_8 => ?_) (fun c_8 => ?_)
  · skip
    refine lv_lload_n E.1.1 E.1.2.1 dX7_has_13 rfl (lv_at hl 2 rfl) ?_
    refine lv_lstore (lv' := [(5, .long (3011627 : Int64)), (0, .ref qm), (1, .int (0 : Int32)), (2, .long (3011627 : Int64)), (4, .int (4 : Int32))]) E.1.1 E.1.2.1 dX7_has_14 hl (by decide) rfl (fun ls hl => ?_)
    refine lv_iload E.1.1 E.1.2.1 dX7_has_16 (lv_at hl 4 rfl) ?_
    refine lv_iconst (v := 1) E.1.1 E.1.2.1 dX7_has_18 (by decide) ?_
    refine lv_isub E.1.1 E.1.2.1 dX7_has_19 ?_
    refine lv_cst (v := 3) (by decide) ?_
    refine lv_istore (lv' := [(7, .int (3 : Int32)), (5, .long (3011627 : Int64)), (0, .ref qm), (1, .int (0 : Int32)), (2, .long (3011627 : Int64)), (4, .int (4 : Int32))]) E.1.1 E.1.2.1 dX7_has_20 hl (by decide) rfl (fun ls hl => ?_)
    refine lv_iload E.1.1 E.1.2.1 dX7_has_22 (lv_at hl 0 rfl) ?_
    refine lv_if_lt (tgt := 81) E.1.1 E.1.2.1 dX7_has_24 (by decide) (fun c_24 => ?_) (fun c_24 => ?_)
    · exact absurd c_24 (by decide)
    · skip
      refine lv_lload E.1.1 E.1.2.1 dX7_has_27 (lv_at hl 1 rfl) ?_
      refine lv_ldc2 (v := 100) E.1.1 E.1.2.1 E.1.2.2.2.1 (E.1.2.2.2.2 _ mj_X7_76) dX7_has_29 ?_
      refine lv_lrem E.1.1 E.1.2.1 dX7_has_32 (by decide) ?_
      refine lv_cstl (v := 27) (by decide) ?_
      refine lv_l2i (v := 27) E.1.1 E.1.2.1 dX7_has_33 (by decide) ?_
      refine lv_istore (lv' := [(8, .int (27 : Int32)), (7, .int (3 : Int32)), (5, .long (3011627 : Int64)), (0, .ref qm), (1, .int (0 : Int32)), (2, .long (3011627 : Int64)), (4, .int (4 : Int32))]) E.1.1 E.1.2.1 dX7_has_34 hl (by decide) rfl (fun ls hl => ?_)
      refine lv_aload_n E.1.1 E.1.2.1 dX7_has_36 rfl (lv_at hl 3 rfl) ?_
      refine gf_X7_53 E Y 0 rfl rfl dX7_has_37 ?_
      refine lv_iload_n E.1.1 E.1.2.1 dX7_has_40 rfl (lv_at hl 4 rfl) ?_
      refine lv_iload E.1.1 E.1.2.1 dX7_has_41 (lv_at hl 1 rfl) ?_
      refine lv_iadd E.1.1 E.1.2.1 dX7_has_43 ?_
      refine lv_cst (v := 3) (by decide) ?_
      refine r_ial E Y 7 rfl (3) (by decide) (by unfold vp_in; decide) dX7_has_44 ?_
      refine lv_iload E.1.1 E.1.2.1 dX7_has_45 (lv_at hl 0 rfl) ?_
      refine lv_bipush (v := 27) E.1.1 E.1.2.1 dX7_has_47 (by decide) ?_
      refine lv_icmp_ne (tgt := 57) E.1.1 E.1.2.1 dX7_has_49 (by decide) (fun c_49 => ?_) (fun c_49 => ?_)
      · exact absurd (by decide) c_49
      · skip
        refine lv_bipush (v := 32) E.1.1 E.1.2.1 dX7_has_52 (by decide) ?_
        refine lv_goto (tgt := 62) E.1.1 E.1.2.1 dX7_has_54 (by decide) ?_
        refine lv_icmp_eq (tgt := 67) E.1.1 E.1.2.1 dX7_has_62 (by decide) (fun c_62 => ?_) (fun c_62 => ?_)
        · skip
          refine lv_lload E.1.1 E.1.2.1 dX7_has_67 (lv_at hl 2 rfl) ?_
          refine lv_ldc2 (v := 100) E.1.1 E.1.2.1 E.1.2.2.2.1 (E.1.2.2.2.2 _ mj_X7_76) dX7_has_69 ?_
          refine lv_ldiv E.1.1 E.1.2.1 dX7_has_72 (by decide) ?_
          refine lv_cstl (v := 30116) (by decide) ?_
          refine lv_lstore (lv' := [(5, .long (30116 : Int64)), (8, .int (27 : Int32)), (7, .int (3 : Int32)), (0, .ref qm), (1, .int (0 : Int32)), (2, .long (3011627 : Int64)), (4, .int (4 : Int32))]) E.1.1 E.1.2.1 dX7_has_73 hl (by decide) rfl (fun ls hl => ?_)
          refine lv_iinc (v := (2 : Int32)) (lv' := [(7, .int (2 : Int32)), (5, .long (30116 : Int64)), (8, .int (27 : Int32)), (0, .ref qm), (1, .int (0 : Int32)), (2, .long (3011627 : Int64)), (4, .int (4 : Int32))]) E.1.1 E.1.2.1 dX7_has_75 hl (k := 2) rfl (by decide) (by decide) rfl (fun ls hl => ?_)
          refine lv_goto (tgt := 22) E.1.1 E.1.2.1 dX7_has_78 (by decide) ?_
          refine lv_iload E.1.1 E.1.2.1 dX7_has_22 (lv_at hl 0 rfl) ?_
          refine lv_if_lt (tgt := 81) E.1.1 E.1.2.1 dX7_has_24 (by decide) (fun c_24 => ?_) (fun c_24 => ?_)
          · exact absurd c_24 (by decide)
          · skip
            refine lv_lload E.1.1 E.1.2.1 dX7_has_27 (lv_at hl 1 rfl) ?_
            refine lv_ldc2 (v := 100) E.1.1 E.1.2.1 E.1.2.2.2.1 (E.1.2.2.2.2 _ mj_X7_76) dX7_has_29 ?_
            refine lv_lrem E.1.1 E.1.2.1 dX7_has_32 (by decide) ?_
            refine lv_cstl (v := 16) (by decide) ?_
            refine lv_l2i (v := 16) E.1.1 E.1.2.1 dX7_has_33 (by decide) ?_
            refine lv_istore (lv' := [(8, .int (16 : Int32)), (7, .int (2 : Int32)), (5, .long (30116 : Int64)), (0, .ref qm), (1, .int (0 : Int32)), (2, .long (3011627 : Int64)), (4, .int (4 : Int32))]) E.1.1 E.1.2.1 dX7_has_34 hl (by decide) rfl (fun ls hl => ?_)
            refine lv_aload_n E.1.1 E.1.2.1 dX7_has_36 rfl (lv_at hl 3 rfl) ?_
            refine gf_X7_53 E Y 0 rfl rfl dX7_has_37 ?_
            refine lv_iload_n E.1.1 E.1.2.1 dX7_has_40 rfl (lv_at hl 4 rfl) ?_
            refine lv_iload E.1.1 E.1.2.1 dX7_has_41 (lv_at hl 1 rfl) ?_
            refine lv_iadd E.1.1 E.1.2.1 dX7_has_43 ?_
            refine lv_cst (v := 2) (by decide) ?_
            refine r_ial E Y 7 rfl (2) (by decide) (by unfold vp_in; decide) dX7_has_44 ?_
            refine lv_iload E.1.1 E.1.2.1 dX7_has_45 (lv_at hl 0 rfl) ?_
            refine lv_bipush (v := 27) E.1.1 E.1.2.1 dX7_has_47 (by decide) ?_
            refine lv_icmp_ne (tgt := 57) E.1.1 E.1.2.1 dX7_has_49 (by decide) (fun c_49 => ?_) (fun c_49 => ?_)
            · skip
              refine lv_bipush (v := 96) E.1.1 E.1.2.1 dX7_has_57 (by decide) ?_
              refine lv_iload E.1.1 E.1.2.1 dX7_has_59 (lv_at hl 0 rfl) ?_
              refine lv_iadd E.1.1 E.1.2.1 dX7_has_61 ?_
              refine lv_cst (v := 112) (by decide) ?_
              refine lv_icmp_eq (tgt := 67) E.1.1 E.1.2.1 dX7_has_62 (by decide) (fun c_62_r1 => ?_) (fun c_62_r1 => ?_)
              · skip
                refine lv_lload E.1.1 E.1.2.1 dX7_has_67 (lv_at hl 2 rfl) ?_
                refine lv_ldc2 (v := 100) E.1.1 E.1.2.1 E.1.2.2.2.1 (E.1.2.2.2.2 _ mj_X7_76) dX7_has_69 ?_
                refine lv_ldiv E.1.1 E.1.2.1 dX7_has_72 (by decide) ?_
                refine lv_cstl (v := 301) (by decide) ?_
                refine lv_lstore (lv' := [(5, .long (301 : Int64)), (8, .int (16 : Int32)), (7, .int (2 : Int32)), (0, .ref qm), (1, .int (0 : Int32)), (2, .long (3011627 : Int64)), (4, .int (4 : Int32))]) E.1.1 E.1.2.1 dX7_has_73 hl (by decide) rfl (fun ls hl => ?_)
                refine lv_iinc (v := (1 : Int32)) (lv' := [(7, .int (1 : Int32)), (5, .long (301 : Int64)), (8, .int (16 : Int32)), (0, .ref qm), (1, .int (0 : Int32)), (2, .long (3011627 : Int64)), (4, .int (4 : Int32))]) E.1.1 E.1.2.1 dX7_has_75 hl (k := 2) rfl (by decide) (by decide) rfl (fun ls hl => ?_)
                refine lv_goto (tgt := 22) E.1.1 E.1.2.1 dX7_has_78 (by decide) ?_
                refine lv_iload E.1.1 E.1.2.1 dX7_has_22 (lv_at hl 0 rfl) ?_
                refine lv_if_lt (tgt := 81) E.1.1 E.1.2.1 dX7_has_24 (by decide) (fun c_24 => ?_) (fun c_24 => ?_)
                · exact absurd c_24 (by decide)
                · skip
                  refine lv_lload E.1.1 E.1.2.1 dX7_has_27 (lv_at hl 1 rfl) ?_
                  refine lv_ldc2 (v := 100) E.1.1 E.1.2.1 E.1.2.2.2.1 (E.1.2.2.2.2 _ mj_X7_76) dX7_has_29 ?_
                  refine lv_lrem E.1.1 E.1.2.1 dX7_has_32 (by decide) ?_
                  refine lv_cstl (v := 1) (by decide) ?_
                  refine lv_l2i (v := 1) E.1.1 E.1.2.1 dX7_has_33 (by decide) ?_
                  refine lv_istore (lv' := [(8, .int (1 : Int32)), (7, .int (1 : Int32)), (5, .long (301 : Int64)), (0, .ref qm), (1, .int (0 : Int32)), (2, .long (3011627 : Int64)), (4, .int (4 : Int32))]) E.1.1 E.1.2.1 dX7_has_34 hl (by decide) rfl (fun ls hl => ?_)
                  refine lv_aload_n E.1.1 E.1.2.1 dX7_has_36 rfl (lv_at hl 3 rfl) ?_
                  refine gf_X7_53 E Y 0 rfl rfl dX7_has_37 ?_
                  refine lv_iload_n E.1.1 E.1.2.1 dX7_has_40 rfl (lv_at hl 4 rfl) ?_
                  refine lv_iload E.1.1 E.1.2.1 dX7_has_41 (lv_at hl 1 rfl) ?_
                  refine lv_iadd E.1.1 E.1.2.1 dX7_has_43 ?_
                  refine lv_cst (v := 1) (by decide) ?_
                  refine r_ial E Y 7 rfl (1) (by decide) (by unfold vp_in; decide) dX7_has_44 ?_
                  refine lv_iload E.1.1 E.1.2.1 dX7_has_45 (lv_at hl 0 rfl) ?_
                  refine lv_bipush (v := 27) E.1.1 E.1.2.1 dX7_has_47 (by decide) ?_
                  refine lv_icmp_ne (tgt := 57) E.1.1 E.1.2.1 dX7_has_49 (by decide) (fun c_49 => ?_) (fun c_49 => ?_)
                  · skip
                    refine lv_bipush (v := 96) E.1.1 E.1.2.1 dX7_has_57 (by decide) ?_
                    refine lv_iload E.1.1 E.1.2.1 dX7_has_59 (lv_at hl 0 rfl) ?_
                    refine lv_iadd E.1.1 E.1.2.1 dX7_has_61 ?_
                    refine lv_cst (v := 97) (by decide) ?_
                    refine lv_icmp_eq (tgt := 67) E.1.1 E.1.2.1 dX7_has_62 (by decide) (fun c_62_r2 => ?_) (fun c_62_r2 => ?_)
                    · skip
                      refine lv_lload E.1.1 E.1.2.1 dX7_has_67 (lv_at hl 2 rfl) ?_
                      refine lv_ldc2 (v := 100) E.1.1 E.1.2.1 E.1.2.2.2.1 (E.1.2.2.2.2 _ mj_X7_76) dX7_has_69 ?_
                      refine lv_ldiv E.1.1 E.1.2.1 dX7_has_72 (by decide) ?_
                      refine lv_cstl (v := 3) (by decide) ?_
                      refine lv_lstore (lv' := [(5, .long (3 : Int64)), (8, .int (1 : Int32)), (7, .int (1 : Int32)), (0, .ref qm), (1, .int (0 : Int32)), (2, .long (3011627 : Int64)), (4, .int (4 : Int32))]) E.1.1 E.1.2.1 dX7_has_73 hl (by decide) rfl (fun ls hl => ?_)
                      refine lv_iinc (v := (0 : Int32)) (lv' := [(7, .int (0 : Int32)), (5, .long (3 : Int64)), (8, .int (1 : Int32)), (0, .ref qm), (1, .int (0 : Int32)), (2, .long (3011627 : Int64)), (4, .int (4 : Int32))]) E.1.1 E.1.2.1 dX7_has_75 hl (k := 2) rfl (by decide) (by decide) rfl (fun ls hl => ?_)
                      refine lv_goto (tgt := 22) E.1.1 E.1.2.1 dX7_has_78 (by decide) ?_
                      refine lv_iload E.1.1 E.1.2.1 dX7_has_22 (lv_at hl 0 rfl) ?_
                      refine lv_if_lt (tgt := 81) E.1.1 E.1.2.1 dX7_has_24 (by decide) (fun c_24 => ?_) (fun c_24 => ?_)
                      · exact absurd c_24 (by decide)
                      · skip
                        refine lv_lload E.1.1 E.1.2.1 dX7_has_27 (lv_at hl 1 rfl) ?_
                        refine lv_ldc2 (v := 100) E.1.1 E.1.2.1 E.1.2.2.2.1 (E.1.2.2.2.2 _ mj_X7_76) dX7_has_29 ?_
                        refine lv_lrem E.1.1 E.1.2.1 dX7_has_32 (by decide) ?_
                        refine lv_cstl (v := 3) (by decide) ?_
                        refine lv_l2i (v := 3) E.1.1 E.1.2.1 dX7_has_33 (by decide) ?_
                        refine lv_istore (lv' := [(8, .int (3 : Int32)), (7, .int (0 : Int32)), (5, .long (3 : Int64)), (0, .ref qm), (1, .int (0 : Int32)), (2, .long (3011627 : Int64)), (4, .int (4 : Int32))]) E.1.1 E.1.2.1 dX7_has_34 hl (by decide) rfl (fun ls hl => ?_)
                        refine lv_aload_n E.1.1 E.1.2.1 dX7_has_36 rfl (lv_at hl 3 rfl) ?_
                        refine gf_X7_53 E Y 0 rfl rfl dX7_has_37 ?_
                        refine lv_iload_n E.1.1 E.1.2.1 dX7_has_40 rfl (lv_at hl 4 rfl) ?_
                        refine lv_iload E.1.1 E.1.2.1 dX7_has_41 (lv_at hl 1 rfl) ?_
                        refine lv_iadd E.1.1 E.1.2.1 dX7_has_43 ?_
                        refine lv_cst (v := 0) (by decide) ?_
                        refine r_ial E Y 7 rfl (0) (by decide) (by unfold vp_in; decide) dX7_has_44 ?_
                        refine lv_iload E.1.1 E.1.2.1 dX7_has_45 (lv_at hl 0 rfl) ?_
                        refine lv_bipush (v := 27) E.1.1 E.1.2.1 dX7_has_47 (by decide) ?_
                        refine lv_icmp_ne (tgt := 57) E.1.1 E.1.2.1 dX7_has_49 (by decide) (fun c_49 => ?_) (fun c_49 => ?_)
                        · skip
                          refine lv_bipush (v := 96) E.1.1 E.1.2.1 dX7_has_57 (by decide) ?_
                          refine lv_iload E.1.1 E.1.2.1 dX7_has_59 (lv_at hl 0 rfl) ?_
                          refine lv_iadd E.1.1 E.1.2.1 dX7_has_61 ?_
                          refine lv_cst (v := 99) (by decide) ?_
                          refine lv_icmp_eq (tgt := 67) E.1.1 E.1.2.1 dX7_has_62 (by decide) (fun c_62_r3 => ?_) (fun c_62_r3 => ?_)
                          · skip
                            refine lv_lload E.1.1 E.1.2.1 dX7_has_67 (lv_at hl 2 rfl) ?_
                            refine lv_ldc2 (v := 100) E.1.1 E.1.2.1 E.1.2.2.2.1 (E.1.2.2.2.2 _ mj_X7_76) dX7_has_69 ?_
                            refine lv_ldiv E.1.1 E.1.2.1 dX7_has_72 (by decide) ?_
                            refine lv_cstl (v := 0) (by decide) ?_
                            refine lv_lstore (lv' := [(5, .long (0 : Int64)), (8, .int (3 : Int32)), (7, .int (0 : Int32)), (0, .ref qm), (1, .int (0 : Int32)), (2, .long (3011627 : Int64)), (4, .int (4 : Int32))]) E.1.1 E.1.2.1 dX7_has_73 hl (by decide) rfl (fun ls hl => ?_)
                            refine lv_iinc (v := (-1 : Int32)) (lv' := [(7, .int (-1 : Int32)), (5, .long (0 : Int64)), (8, .int (3 : Int32)), (0, .ref qm), (1, .int (0 : Int32)), (2, .long (3011627 : Int64)), (4, .int (4 : Int32))]) E.1.1 E.1.2.1 dX7_has_75 hl (k := 2) rfl (by decide) (by decide) rfl (fun ls hl => ?_)
                            refine lv_goto (tgt := 22) E.1.1 E.1.2.1 dX7_has_78 (by decide) ?_
                            refine lv_iload E.1.1 E.1.2.1 dX7_has_22 (lv_at hl 0 rfl) ?_
                            refine lv_if_lt (tgt := 81) E.1.1 E.1.2.1 dX7_has_24 (by decide) (fun c_24 => ?_) (fun c_24 => ?_)
                            · skip
                              refine lv_iconst (v := 1) E.1.1 E.1.2.1 dX7_has_81 (by decide) ?_
                              have e9 : (f_X7_has_cap y) = (1 : Int32) := (if_pos c_8).trans ((if_pos c_62).trans ((if_pos c_62_r1).trans ((if_pos c_62_r2).trans ((if_pos c_62_r3).trans (rfl)))))
                              exact r_zret E Y hr hk (1 : Int32) rfl () (e9.symm) rfl ⟨Nat.le_of_ble_eq_true rfl, Nat.le_of_ble_eq_true rfl⟩ dX7_has_82
                            · exact absurd (by decide) c_24
                          · skip
                            refine lv_iconst (v := 0) E.1.1 E.1.2.1 dX7_has_65 (by decide) ?_
                            have e9 : (f_X7_has_cap y) = (0 : Int32) := (if_pos c_8).trans ((if_pos c_62).trans ((if_pos c_62_r1).trans ((if_pos c_62_r2).trans ((if_neg c_62_r3).trans (rfl)))))
                            exact r_zret E Y hr hk (0 : Int32) rfl () (e9.symm) rfl ⟨Nat.le_of_ble_eq_true rfl, Nat.le_of_ble_eq_true rfl⟩ dX7_has_66
                        · exact absurd c_49 (by decide)
                    · skip
                      refine lv_iconst (v := 0) E.1.1 E.1.2.1 dX7_has_65 (by decide) ?_
                      have e9 : (f_X7_has_cap y) = (0 : Int32) := (if_pos c_8).trans ((if_pos c_62).trans ((if_pos c_62_r1).trans ((if_neg c_62_r2).trans (rfl))))
                      exact r_zret E Y hr hk (0 : Int32) rfl () (e9.symm) rfl ⟨Nat.le_of_ble_eq_true rfl, Nat.le_of_ble_eq_true rfl⟩ dX7_has_66
                  · exact absurd c_49 (by decide)
              · skip
                refine lv_iconst (v := 0) E.1.1 E.1.2.1 dX7_has_65 (by decide) ?_
                have e9 : (f_X7_has_cap y) = (0 : Int32) := (if_pos c_8).trans ((if_pos c_62).trans ((if_neg c_62_r1).trans (rfl)))
                exact r_zret E Y hr hk (0 : Int32) rfl () (e9.symm) rfl ⟨Nat.le_of_ble_eq_true rfl, Nat.le_of_ble_eq_true rfl⟩ dX7_has_66
            · exact absurd c_49 (by decide)
        · skip
          refine lv_iconst (v := 0) E.1.1 E.1.2.1 dX7_has_65 (by decide) ?_
          have e9 : (f_X7_has_cap y) = (0 : Int32) := (if_pos c_8).trans ((if_neg c_62).trans (rfl))
          exact r_zret E Y hr hk (0 : Int32) rfl () (e9.symm) rfl ⟨Nat.le_of_ble_eq_true rfl, Nat.le_of_ble_eq_true rfl⟩ dX7_has_66
  · skip
    refine lv_iconst (v := 0) E.1.1 E.1.2.1 dX7_has_11 (by decide) ?_
    have e9 : (f_X7_has_cap y) = (0 : Int32) := (if_neg c_8).trans (rfl)
    exact r_zret E Y hr hk (0 : Int32) rfl () (e9.symm) rfl ⟨Nat.le_of_ble_eq_true rfl, Nat.le_of_ble_eq_true rfl⟩ dX7_has_12

def f_X7_has_seek (y : Ky) : Int32 := if (5 : Int32) ≤ (y.1 1) then (if (y.2 (4)) = (32 : Int32) then (if (y.2 (3)) = (107 : Int32) then (if (y.2 (2)) = (101 : Int32) then (if (y.2 (1)) = (101 : Int32) then (if (y.2 (0)) = (115 : Int32) then (1 : Int32) else (0 : Int32)) else (0 : Int32)) else (0 : Int32)) else (0 : Int32)) else (0 : Int32)) else (0 : Int32)
set_option maxRecDepth 100000 in
set_option maxHeartbeats 4000000 in
theorem c_X7_has_seek {l : Launch} {D : va_G} {cI cB : ClassId} (qm mb ma me mr mn ms mk : Nat) (k : Cf) (v : Fn) (a : Fn) (y : Ky) : CI l X0 D cI cB yX7_has cX7_has 9 (some .boolean) 0 0 0 0 [.ref qm, .int (0 : Int32), .long (1905051127 : Int64), .int (5 : Int32)] (wM cI qm mb ma me mr mn ms mk k v a y) (fun (r : Int32) (_ : Unit) => r = (f_X7_has_seek y)) (fun _ => (wM cI qm mb ma me mr mn ms mk k v a y)) := by
  refine CI.of (by decide) (Nat.le_of_ble_eq_true rfl) ?_
  intro p e s m below meth c A ls E hr hk hin hA hAA hX Y hl
  have E : EE p c cX7_has 9 s _ m RX7 D cI cB := E
  have hl : lv_has ls 9 [(0, .ref qm), (1, .int (0 : Int32)), (2, .long (1905051127 : Int64)), (4, .int (5 : Int32))] := hl
  refine lv_iload_n E.1.1 E.1.2.1 dX7_has_0 rfl (lv_at hl 1 rfl) ?_
  refine lv_iload E.1.1 E.1.2.1 dX7_has_1 (lv_at hl 3 rfl) ?_
  refine lv_iadd E.1.1 E.1.2.1 dX7_has_3 ?_
  refine lv_cst (v := 5) (by decide) ?_
  refine lv_aload_n E.1.1 E.1.2.1 dX7_has_4 rfl (lv_at hl 0 rfl) ?_
  refine gf_X7_73 E Y 0 rfl rfl dX7_has_5 ?_
  refine lv_icmp_le (tgt := 13) E.1.1 E.1.2.1 dX7_has_8 (by decide) (fun c_8 => ?_) (fun c_8 => ?_)
  · skip
    refine lv_lload_n E.1.1 E.1.2.1 dX7_has_13 rfl (lv_at hl 2 rfl) ?_
    refine lv_lstore (lv' := [(5, .long (1905051127 : Int64)), (0, .ref qm), (1, .int (0 : Int32)), (2, .long (1905051127 : Int64)), (4, .int (5 : Int32))]) E.1.1 E.1.2.1 dX7_has_14 hl (by decide) rfl (fun ls hl => ?_)
    refine lv_iload E.1.1 E.1.2.1 dX7_has_16 (lv_at hl 4 rfl) ?_
    refine lv_iconst (v := 1) E.1.1 E.1.2.1 dX7_has_18 (by decide) ?_
    refine lv_isub E.1.1 E.1.2.1 dX7_has_19 ?_
    refine lv_cst (v := 4) (by decide) ?_
    refine lv_istore (lv' := [(7, .int (4 : Int32)), (5, .long (1905051127 : Int64)), (0, .ref qm), (1, .int (0 : Int32)), (2, .long (1905051127 : Int64)), (4, .int (5 : Int32))]) E.1.1 E.1.2.1 dX7_has_20 hl (by decide) rfl (fun ls hl => ?_)
    refine lv_iload E.1.1 E.1.2.1 dX7_has_22 (lv_at hl 0 rfl) ?_
    refine lv_if_lt (tgt := 81) E.1.1 E.1.2.1 dX7_has_24 (by decide) (fun c_24 => ?_) (fun c_24 => ?_)
    · exact absurd c_24 (by decide)
    · skip
      refine lv_lload E.1.1 E.1.2.1 dX7_has_27 (lv_at hl 1 rfl) ?_
      refine lv_ldc2 (v := 100) E.1.1 E.1.2.1 E.1.2.2.2.1 (E.1.2.2.2.2 _ mj_X7_76) dX7_has_29 ?_
      refine lv_lrem E.1.1 E.1.2.1 dX7_has_32 (by decide) ?_
      refine lv_cstl (v := 27) (by decide) ?_
      refine lv_l2i (v := 27) E.1.1 E.1.2.1 dX7_has_33 (by decide) ?_
      refine lv_istore (lv' := [(8, .int (27 : Int32)), (7, .int (4 : Int32)), (5, .long (1905051127 : Int64)), (0, .ref qm), (1, .int (0 : Int32)), (2, .long (1905051127 : Int64)), (4, .int (5 : Int32))]) E.1.1 E.1.2.1 dX7_has_34 hl (by decide) rfl (fun ls hl => ?_)
      refine lv_aload_n E.1.1 E.1.2.1 dX7_has_36 rfl (lv_at hl 3 rfl) ?_
      refine gf_X7_53 E Y 0 rfl rfl dX7_has_37 ?_
      refine lv_iload_n E.1.1 E.1.2.1 dX7_has_40 rfl (lv_at hl 4 rfl) ?_
      refine lv_iload E.1.1 E.1.2.1 dX7_has_41 (lv_at hl 1 rfl) ?_
      refine lv_iadd E.1.1 E.1.2.1 dX7_has_43 ?_
      refine lv_cst (v := 4) (by decide) ?_
      refine r_ial E Y 7 rfl (4) (by decide) (by unfold vp_in; decide) dX7_has_44 ?_
      refine lv_iload E.1.1 E.1.2.1 dX7_has_45 (lv_at hl 0 rfl) ?_
      refine lv_bipush (v := 27) E.1.1 E.1.2.1 dX7_has_47 (by decide) ?_
      refine lv_icmp_ne (tgt := 57) E.1.1 E.1.2.1 dX7_has_49 (by decide) (fun c_49 => ?_) (fun c_49 => ?_)
      · exact absurd (by decide) c_49
      · skip
        refine lv_bipush (v := 32) E.1.1 E.1.2.1 dX7_has_52 (by decide) ?_
        refine lv_goto (tgt := 62) E.1.1 E.1.2.1 dX7_has_54 (by decide) ?_
        refine lv_icmp_eq (tgt := 67) E.1.1 E.1.2.1 dX7_has_62 (by decide) (fun c_62 => ?_) (fun c_62 => ?_)
        · skip
          refine lv_lload E.1.1 E.1.2.1 dX7_has_67 (lv_at hl 2 rfl) ?_
          refine lv_ldc2 (v := 100) E.1.1 E.1.2.1 E.1.2.2.2.1 (E.1.2.2.2.2 _ mj_X7_76) dX7_has_69 ?_
          refine lv_ldiv E.1.1 E.1.2.1 dX7_has_72 (by decide) ?_
          refine lv_cstl (v := 19050511) (by decide) ?_
          refine lv_lstore (lv' := [(5, .long (19050511 : Int64)), (8, .int (27 : Int32)), (7, .int (4 : Int32)), (0, .ref qm), (1, .int (0 : Int32)), (2, .long (1905051127 : Int64)), (4, .int (5 : Int32))]) E.1.1 E.1.2.1 dX7_has_73 hl (by decide) rfl (fun ls hl => ?_)
          refine lv_iinc (v := (3 : Int32)) (lv' := [(7, .int (3 : Int32)), (5, .long (19050511 : Int64)), (8, .int (27 : Int32)), (0, .ref qm), (1, .int (0 : Int32)), (2, .long (1905051127 : Int64)), (4, .int (5 : Int32))]) E.1.1 E.1.2.1 dX7_has_75 hl (k := 2) rfl (by decide) (by decide) rfl (fun ls hl => ?_)
          refine lv_goto (tgt := 22) E.1.1 E.1.2.1 dX7_has_78 (by decide) ?_
          refine lv_iload E.1.1 E.1.2.1 dX7_has_22 (lv_at hl 0 rfl) ?_
          refine lv_if_lt (tgt := 81) E.1.1 E.1.2.1 dX7_has_24 (by decide) (fun c_24 => ?_) (fun c_24 => ?_)
          · exact absurd c_24 (by decide)
          · skip
            refine lv_lload E.1.1 E.1.2.1 dX7_has_27 (lv_at hl 1 rfl) ?_
            refine lv_ldc2 (v := 100) E.1.1 E.1.2.1 E.1.2.2.2.1 (E.1.2.2.2.2 _ mj_X7_76) dX7_has_29 ?_
            refine lv_lrem E.1.1 E.1.2.1 dX7_has_32 (by decide) ?_
            refine lv_cstl (v := 11) (by decide) ?_
            refine lv_l2i (v := 11) E.1.1 E.1.2.1 dX7_has_33 (by decide) ?_
            refine lv_istore (lv' := [(8, .int (11 : Int32)), (7, .int (3 : Int32)), (5, .long (19050511 : Int64)), (0, .ref qm), (1, .int (0 : Int32)), (2, .long (1905051127 : Int64)), (4, .int (5 : Int32))]) E.1.1 E.1.2.1 dX7_has_34 hl (by decide) rfl (fun ls hl => ?_)
            refine lv_aload_n E.1.1 E.1.2.1 dX7_has_36 rfl (lv_at hl 3 rfl) ?_
            refine gf_X7_53 E Y 0 rfl rfl dX7_has_37 ?_
            refine lv_iload_n E.1.1 E.1.2.1 dX7_has_40 rfl (lv_at hl 4 rfl) ?_
            refine lv_iload E.1.1 E.1.2.1 dX7_has_41 (lv_at hl 1 rfl) ?_
            refine lv_iadd E.1.1 E.1.2.1 dX7_has_43 ?_
            refine lv_cst (v := 3) (by decide) ?_
            refine r_ial E Y 7 rfl (3) (by decide) (by unfold vp_in; decide) dX7_has_44 ?_
            refine lv_iload E.1.1 E.1.2.1 dX7_has_45 (lv_at hl 0 rfl) ?_
            refine lv_bipush (v := 27) E.1.1 E.1.2.1 dX7_has_47 (by decide) ?_
            refine lv_icmp_ne (tgt := 57) E.1.1 E.1.2.1 dX7_has_49 (by decide) (fun c_49 => ?_) (fun c_49 => ?_)
            · skip
              refine lv_bipush (v := 96) E.1.1 E.1.2.1 dX7_has_57 (by decide) ?_
              refine lv_iload E.1.1 E.1.2.1 dX7_has_59 (lv_at hl 0 rfl) ?_
              refine lv_iadd E.1.1 E.1.2.1 dX7_has_61 ?_
              refine lv_cst (v := 107) (by decide) ?_
              refine lv_icmp_eq (tgt := 67) E.1.1 E.1.2.1 dX7_has_62 (by decide) (fun c_62_r1 => ?_) (fun c_62_r1 => ?_)
              · skip
                refine lv_lload E.1.1 E.1.2.1 dX7_has_67 (lv_at hl 2 rfl) ?_
                refine lv_ldc2 (v := 100) E.1.1 E.1.2.1 E.1.2.2.2.1 (E.1.2.2.2.2 _ mj_X7_76) dX7_has_69 ?_
                refine lv_ldiv E.1.1 E.1.2.1 dX7_has_72 (by decide) ?_
                refine lv_cstl (v := 190505) (by decide) ?_
                refine lv_lstore (lv' := [(5, .long (190505 : Int64)), (8, .int (11 : Int32)), (7, .int (3 : Int32)), (0, .ref qm), (1, .int (0 : Int32)), (2, .long (1905051127 : Int64)), (4, .int (5 : Int32))]) E.1.1 E.1.2.1 dX7_has_73 hl (by decide) rfl (fun ls hl => ?_)
                refine lv_iinc (v := (2 : Int32)) (lv' := [(7, .int (2 : Int32)), (5, .long (190505 : Int64)), (8, .int (11 : Int32)), (0, .ref qm), (1, .int (0 : Int32)), (2, .long (1905051127 : Int64)), (4, .int (5 : Int32))]) E.1.1 E.1.2.1 dX7_has_75 hl (k := 2) rfl (by decide) (by decide) rfl (fun ls hl => ?_)
                refine lv_goto (tgt := 22) E.1.1 E.1.2.1 dX7_has_78 (by decide) ?_
                refine lv_iload E.1.1 E.1.2.1 dX7_has_22 (lv_at hl 0 rfl) ?_
                refine lv_if_lt (tgt := 81) E.1.1 E.1.2.1 dX7_has_24 (by decide) (fun c_24 => ?_) (fun c_24 => ?_)
                · exact absurd c_24 (by decide)
                · skip
                  refine lv_lload E.1.1 E.1.2.1 dX7_has_27 (lv_at hl 1 rfl) ?_
                  refine lv_ldc2 (v := 100) E.1.1 E.1.2.1 E.1.2.2.2.1 (E.1.2.2.2.2 _ mj_X7_76) dX7_has_29 ?_
                  refine lv_lrem E.1.1 E.1.2.1 dX7_has_32 (by decide) ?_
                  refine lv_cstl (v := 5) (by decide) ?_
                  refine lv_l2i (v := 5) E.1.1 E.1.2.1 dX7_has_33 (by decide) ?_
                  refine lv_istore (lv' := [(8, .int (5 : Int32)), (7, .int (2 : Int32)), (5, .long (190505 : Int64)), (0, .ref qm), (1, .int (0 : Int32)), (2, .long (1905051127 : Int64)), (4, .int (5 : Int32))]) E.1.1 E.1.2.1 dX7_has_34 hl (by decide) rfl (fun ls hl => ?_)
                  refine lv_aload_n E.1.1 E.1.2.1 dX7_has_36 rfl (lv_at hl 3 rfl) ?_
                  refine gf_X7_53 E Y 0 rfl rfl dX7_has_37 ?_
                  refine lv_iload_n E.1.1 E.1.2.1 dX7_has_40 rfl (lv_at hl 4 rfl) ?_
                  refine lv_iload E.1.1 E.1.2.1 dX7_has_41 (lv_at hl 1 rfl) ?_
                  refine lv_iadd E.1.1 E.1.2.1 dX7_has_43 ?_
                  refine lv_cst (v := 2) (by decide) ?_
                  refine r_ial E Y 7 rfl (2) (by decide) (by unfold vp_in; decide) dX7_has_44 ?_
                  refine lv_iload E.1.1 E.1.2.1 dX7_has_45 (lv_at hl 0 rfl) ?_
                  refine lv_bipush (v := 27) E.1.1 E.1.2.1 dX7_has_47 (by decide) ?_
                  refine lv_icmp_ne (tgt := 57) E.1.1 E.1.2.1 dX7_has_49 (by decide) (fun c_49 => ?_) (fun c_49 => ?_)
                  · skip
                    refine lv_bipush (v := 96) E.1.1 E.1.2.1 dX7_has_57 (by decide) ?_
                    refine lv_iload E.1.1 E.1.2.1 dX7_has_59 (lv_at hl 0 rfl) ?_
                    refine lv_iadd E.1.1 E.1.2.1 dX7_has_61 ?_
                    refine lv_cst (v := 101) (by decide) ?_
                    refine lv_icmp_eq (tgt := 67) E.1.1 E.1.2.1 dX7_has_62 (by decide) (fun c_62_r2 => ?_) (fun c_62_r2 => ?_)
                    · skip
                      refine lv_lload E.1.1 E.1.2.1 dX7_has_67 (lv_at hl 2 rfl) ?_
                      refine lv_ldc2 (v := 100) E.1.1 E.1.2.1 E.1.2.2.2.1 (E.1.2.2.2.2 _ mj_X7_76) dX7_has_69 ?_
                      refine lv_ldiv E.1.1 E.1.2.1 dX7_has_72 (by decide) ?_
                      refine lv_cstl (v := 1905) (by decide) ?_
                      refine lv_lstore (lv' := [(5, .long (1905 : Int64)), (8, .int (5 : Int32)), (7, .int (2 : Int32)), (0, .ref qm), (1, .int (0 : Int32)), (2, .long (1905051127 : Int64)), (4, .int (5 : Int32))]) E.1.1 E.1.2.1 dX7_has_73 hl (by decide) rfl (fun ls hl => ?_)
                      refine lv_iinc (v := (1 : Int32)) (lv' := [(7, .int (1 : Int32)), (5, .long (1905 : Int64)), (8, .int (5 : Int32)), (0, .ref qm), (1, .int (0 : Int32)), (2, .long (1905051127 : Int64)), (4, .int (5 : Int32))]) E.1.1 E.1.2.1 dX7_has_75 hl (k := 2) rfl (by decide) (by decide) rfl (fun ls hl => ?_)
                      refine lv_goto (tgt := 22) E.1.1 E.1.2.1 dX7_has_78 (by decide) ?_
                      refine lv_iload E.1.1 E.1.2.1 dX7_has_22 (lv_at hl 0 rfl) ?_
                      refine lv_if_lt (tgt := 81) E.1.1 E.1.2.1 dX7_has_24 (by decide) (fun c_24 => ?_) (fun c_24 => ?_)
                      · exact absurd c_24 (by decide)
                      · skip
                        refine lv_lload E.1.1 E.1.2.1 dX7_has_27 (lv_at hl 1 rfl) ?_
                        refine lv_ldc2 (v := 100) E.1.1 E.1.2.1 E.1.2.2.2.1 (E.1.2.2.2.2 _ mj_X7_76) dX7_has_29 ?_
                        refine lv_lrem E.1.1 E.1.2.1 dX7_has_32 (by decide) ?_
                        refine lv_cstl (v := 5) (by decide) ?_
                        refine lv_l2i (v := 5) E.1.1 E.1.2.1 dX7_has_33 (by decide) ?_
                        refine lv_istore (lv' := [(8, .int (5 : Int32)), (7, .int (1 : Int32)), (5, .long (1905 : Int64)), (0, .ref qm), (1, .int (0 : Int32)), (2, .long (1905051127 : Int64)), (4, .int (5 : Int32))]) E.1.1 E.1.2.1 dX7_has_34 hl (by decide) rfl (fun ls hl => ?_)
                        refine lv_aload_n E.1.1 E.1.2.1 dX7_has_36 rfl (lv_at hl 3 rfl) ?_
                        refine gf_X7_53 E Y 0 rfl rfl dX7_has_37 ?_
                        refine lv_iload_n E.1.1 E.1.2.1 dX7_has_40 rfl (lv_at hl 4 rfl) ?_
                        refine lv_iload E.1.1 E.1.2.1 dX7_has_41 (lv_at hl 1 rfl) ?_
                        refine lv_iadd E.1.1 E.1.2.1 dX7_has_43 ?_
                        refine lv_cst (v := 1) (by decide) ?_
                        refine r_ial E Y 7 rfl (1) (by decide) (by unfold vp_in; decide) dX7_has_44 ?_
                        refine lv_iload E.1.1 E.1.2.1 dX7_has_45 (lv_at hl 0 rfl) ?_
                        refine lv_bipush (v := 27) E.1.1 E.1.2.1 dX7_has_47 (by decide) ?_
                        refine lv_icmp_ne (tgt := 57) E.1.1 E.1.2.1 dX7_has_49 (by decide) (fun c_49 => ?_) (fun c_49 => ?_)
                        · skip
                          refine lv_bipush (v := 96) E.1.1 E.1.2.1 dX7_has_57 (by decide) ?_
                          refine lv_iload E.1.1 E.1.2.1 dX7_has_59 (lv_at hl 0 rfl) ?_
                          refine lv_iadd E.1.1 E.1.2.1 dX7_has_61 ?_
                          refine lv_cst (v := 101) (by decide) ?_
                          refine lv_icmp_eq (tgt := 67) E.1.1 E.1.2.1 dX7_has_62 (by decide) (fun c_62_r3 => ?_) (fun c_62_r3 => ?_)
                          · skip
                            refine lv_lload E.1.1 E.1.2.1 dX7_has_67 (lv_at hl 2 rfl) ?_
                            refine lv_ldc2 (v := 100) E.1.1 E.1.2.1 E.1.2.2.2.1 (E.1.2.2.2.2 _ mj_X7_76) dX7_has_69 ?_
                            refine lv_ldiv E.1.1 E.1.2.1 dX7_has_72 (by decide) ?_
                            refine lv_cstl (v := 19) (by decide) ?_
                            refine lv_lstore (lv' := [(5, .long (19 : Int64)), (8, .int (5 : Int32)), (7, .int (1 : Int32)), (0, .ref qm), (1, .int (0 : Int32)), (2, .long (1905051127 : Int64)), (4, .int (5 : Int32))]) E.1.1 E.1.2.1 dX7_has_73 hl (by decide) rfl (fun ls hl => ?_)
                            refine lv_iinc (v := (0 : Int32)) (lv' := [(7, .int (0 : Int32)), (5, .long (19 : Int64)), (8, .int (5 : Int32)), (0, .ref qm), (1, .int (0 : Int32)), (2, .long (1905051127 : Int64)), (4, .int (5 : Int32))]) E.1.1 E.1.2.1 dX7_has_75 hl (k := 2) rfl (by decide) (by decide) rfl (fun ls hl => ?_)
                            refine lv_goto (tgt := 22) E.1.1 E.1.2.1 dX7_has_78 (by decide) ?_
                            refine lv_iload E.1.1 E.1.2.1 dX7_has_22 (lv_at hl 0 rfl) ?_
                            refine lv_if_lt (tgt := 81) E.1.1 E.1.2.1 dX7_has_24 (by decide) (fun c_24 => ?_) (fun c_24 => ?_)
                            · exact absurd c_24 (by decide)
                            · skip
                              refine lv_lload E.1.1 E.1.2.1 dX7_has_27 (lv_at hl 1 rfl) ?_
                              refine lv_ldc2 (v := 100) E.1.1 E.1.2.1 E.1.2.2.2.1 (E.1.2.2.2.2 _ mj_X7_76) dX7_has_29 ?_
                              refine lv_lrem E.1.1 E.1.2.1 dX7_has_32 (by decide) ?_
                              refine lv_cstl (v := 19) (by decide) ?_
                              refine lv_l2i (v := 19) E.1.1 E.1.2.1 dX7_has_33 (by decide) ?_
                              refine lv_istore (lv' := [(8, .int (19 : Int32)), (7, .int (0 : Int32)), (5, .long (19 : Int64)), (0, .ref qm), (1, .int (0 : Int32)), (2, .long (1905051127 : Int64)), (4, .int (5 : Int32))]) E.1.1 E.1.2.1 dX7_has_34 hl (by decide) rfl (fun ls hl => ?_)
                              refine lv_aload_n E.1.1 E.1.2.1 dX7_has_36 rfl (lv_at hl 3 rfl) ?_
                              refine gf_X7_53 E Y 0 rfl rfl dX7_has_37 ?_
                              refine lv_iload_n E.1.1 E.1.2.1 dX7_has_40 rfl (lv_at hl 4 rfl) ?_
                              refine lv_iload E.1.1 E.1.2.1 dX7_has_41 (lv_at hl 1 rfl) ?_
                              refine lv_iadd E.1.1 E.1.2.1 dX7_has_43 ?_
                              refine lv_cst (v := 0) (by decide) ?_
                              refine r_ial E Y 7 rfl (0) (by decide) (by unfold vp_in; decide) dX7_has_44 ?_
                              refine lv_iload E.1.1 E.1.2.1 dX7_has_45 (lv_at hl 0 rfl) ?_
                              refine lv_bipush (v := 27) E.1.1 E.1.2.1 dX7_has_47 (by decide) ?_
                              refine lv_icmp_ne (tgt := 57) E.1.1 E.1.2.1 dX7_has_49 (by decide) (fun c_49 => ?_) (fun c_49 => ?_)
                              · skip
                                refine lv_bipush (v := 96) E.1.1 E.1.2.1 dX7_has_57 (by decide) ?_
                                refine lv_iload E.1.1 E.1.2.1 dX7_has_59 (lv_at hl 0 rfl) ?_
                                refine lv_iadd E.1.1 E.1.2.1 dX7_has_61 ?_
                                refine lv_cst (v := 115) (by decide) ?_
                                refine lv_icmp_eq (tgt := 67) E.1.1 E.1.2.1 dX7_has_62 (by decide) (fun c_62_r4 => ?_) (fun c_62_r4 => ?_)
                                · skip
                                  refine lv_lload E.1.1 E.1.2.1 dX7_has_67 (lv_at hl 2 rfl) ?_
                                  refine lv_ldc2 (v := 100) E.1.1 E.1.2.1 E.1.2.2.2.1 (E.1.2.2.2.2 _ mj_X7_76) dX7_has_69 ?_
                                  refine lv_ldiv E.1.1 E.1.2.1 dX7_has_72 (by decide) ?_
                                  refine lv_cstl (v := 0) (by decide) ?_
                                  refine lv_lstore (lv' := [(5, .long (0 : Int64)), (8, .int (19 : Int32)), (7, .int (0 : Int32)), (0, .ref qm), (1, .int (0 : Int32)), (2, .long (1905051127 : Int64)), (4, .int (5 : Int32))]) E.1.1 E.1.2.1 dX7_has_73 hl (by decide) rfl (fun ls hl => ?_)
                                  refine lv_iinc (v := (-1 : Int32)) (lv' := [(7, .int (-1 : Int32)), (5, .long (0 : Int64)), (8, .int (19 : Int32)), (0, .ref qm), (1, .int (0 : Int32)), (2, .long (1905051127 : Int64)), (4, .int (5 : Int32))]) E.1.1 E.1.2.1 dX7_has_75 hl (k := 2) rfl (by decide) (by decide) rfl (fun ls hl => ?_)
                                  refine lv_goto (tgt := 22) E.1.1 E.1.2.1 dX7_has_78 (by decide) ?_
                                  refine lv_iload E.1.1 E.1.2.1 dX7_has_22 (lv_at hl 0 rfl) ?_
                                  refine lv_if_lt (tgt := 81) E.1.1 E.1.2.1 dX7_has_24 (by decide) (fun c_24 => ?_) (fun c_24 => ?_)
                                  · skip
                                    refine lv_iconst (v := 1) E.1.1 E.1.2.1 dX7_has_81 (by decide) ?_
                                    have e9 : (f_X7_has_seek y) = (1 : Int32) := (if_pos c_8).trans ((if_pos c_62).trans ((if_pos c_62_r1).trans ((if_pos c_62_r2).trans ((if_pos c_62_r3).trans ((if_pos c_62_r4).trans (rfl))))))
                                    exact r_zret E Y hr hk (1 : Int32) rfl () (e9.symm) rfl ⟨Nat.le_of_ble_eq_true rfl, Nat.le_of_ble_eq_true rfl⟩ dX7_has_82
                                  · exact absurd (by decide) c_24
                                · skip
                                  refine lv_iconst (v := 0) E.1.1 E.1.2.1 dX7_has_65 (by decide) ?_
                                  have e9 : (f_X7_has_seek y) = (0 : Int32) := (if_pos c_8).trans ((if_pos c_62).trans ((if_pos c_62_r1).trans ((if_pos c_62_r2).trans ((if_pos c_62_r3).trans ((if_neg c_62_r4).trans (rfl))))))
                                  exact r_zret E Y hr hk (0 : Int32) rfl () (e9.symm) rfl ⟨Nat.le_of_ble_eq_true rfl, Nat.le_of_ble_eq_true rfl⟩ dX7_has_66
                              · exact absurd c_49 (by decide)
                          · skip
                            refine lv_iconst (v := 0) E.1.1 E.1.2.1 dX7_has_65 (by decide) ?_
                            have e9 : (f_X7_has_seek y) = (0 : Int32) := (if_pos c_8).trans ((if_pos c_62).trans ((if_pos c_62_r1).trans ((if_pos c_62_r2).trans ((if_neg c_62_r3).trans (rfl)))))
                            exact r_zret E Y hr hk (0 : Int32) rfl () (e9.symm) rfl ⟨Nat.le_of_ble_eq_true rfl, Nat.le_of_ble_eq_true rfl⟩ dX7_has_66
                        · exact absurd c_49 (by decide)
                    · skip
                      refine lv_iconst (v := 0) E.1.1 E.1.2.1 dX7_has_65 (by decide) ?_
                      have e9 : (f_X7_has_seek y) = (0 : Int32) := (if_pos c_8).trans ((if_pos c_62).trans ((if_pos c_62_r1).trans ((if_neg c_62_r2).trans (rfl))))
                      exact r_zret E Y hr hk (0 : Int32) rfl () (e9.symm) rfl ⟨Nat.le_of_ble_eq_true rfl, Nat.le_of_ble_eq_true rfl⟩ dX7_has_66
                  · exact absurd c_49 (by decide)
              · skip
                refine lv_iconst (v := 0) E.1.1 E.1.2.1 dX7_has_65 (by decide) ?_
                have e9 : (f_X7_has_seek y) = (0 : Int32) := (if_pos c_8).trans ((if_pos c_62).trans ((if_neg c_62_r1).trans (rfl)))
                exact r_zret E Y hr hk (0 : Int32) rfl () (e9.symm) rfl ⟨Nat.le_of_ble_eq_true rfl, Nat.le_of_ble_eq_true rfl⟩ dX7_has_66
            · exact absurd c_49 (by decide)
        · skip
          refine lv_iconst (v := 0) E.1.1 E.1.2.1 dX7_has_65 (by decide) ?_
          have e9 : (f_X7_has_seek y) = (0 : Int32) := (if_pos c_8).trans ((if_neg c_62).trans (rfl))
          exact r_zret E Y hr hk (0 : Int32) rfl () (e9.symm) rfl ⟨Nat.le_of_ble_eq_true rfl, Nat.le_of_ble_eq_true rfl⟩ dX7_has_66
  · skip
    refine lv_iconst (v := 0) E.1.1 E.1.2.1 dX7_has_11 (by decide) ?_
    have e9 : (f_X7_has_seek y) = (0 : Int32) := (if_neg c_8).trans (rfl)
    exact r_zret E Y hr hk (0 : Int32) rfl () (e9.symm) rfl ⟨Nat.le_of_ble_eq_true rfl, Nat.le_of_ble_eq_true rfl⟩ dX7_has_12

def f_X7_has_pause (y : Ky) : Int32 := if (5 : Int32) ≤ (y.1 1) then (if (y.2 (4)) = (101 : Int32) then (if (y.2 (3)) = (115 : Int32) then (if (y.2 (2)) = (117 : Int32) then (if (y.2 (1)) = (97 : Int32) then (if (y.2 (0)) = (112 : Int32) then (1 : Int32) else (0 : Int32)) else (0 : Int32)) else (0 : Int32)) else (0 : Int32)) else (0 : Int32)) else (0 : Int32)
set_option maxRecDepth 100000 in
set_option maxHeartbeats 4000000 in
theorem c_X7_has_pause {l : Launch} {D : va_G} {cI cB : ClassId} (qm mb ma me mr mn ms mk : Nat) (k : Cf) (v : Fn) (a : Fn) (y : Ky) : CI l X0 D cI cB yX7_has cX7_has 9 (some .boolean) 0 0 0 0 [.ref qm, .int (0 : Int32), .long (1601211905 : Int64), .int (5 : Int32)] (wM cI qm mb ma me mr mn ms mk k v a y) (fun (r : Int32) (_ : Unit) => r = (f_X7_has_pause y)) (fun _ => (wM cI qm mb ma me mr mn ms mk k v a y)) := by
  refine CI.of (by decide) (Nat.le_of_ble_eq_true rfl) ?_
  intro p e s m below meth c A ls E hr hk hin hA hAA hX Y hl
  have E : EE p c cX7_has 9 s _ m RX7 D cI cB := E
  have hl : lv_has ls 9 [(0, .ref qm), (1, .int (0 : Int32)), (2, .long (1601211905 : Int64)), (4, .int (5 : Int32))] := hl
  refine lv_iload_n E.1.1 E.1.2.1 dX7_has_0 rfl (lv_at hl 1 rfl) ?_
  refine lv_iload E.1.1 E.1.2.1 dX7_has_1 (lv_at hl 3 rfl) ?_
  refine lv_iadd E.1.1 E.1.2.1 dX7_has_3 ?_
  refine lv_cst (v := 5) (by decide) ?_
  refine lv_aload_n E.1.1 E.1.2.1 dX7_has_4 rfl (lv_at hl 0 rfl) ?_
  refine gf_X7_73 E Y 0 rfl rfl dX7_has_5 ?_
  refine lv_icmp_le (tgt := 13) E.1.1 E.1.2.1 dX7_has_8 (by decide) (fun c_8 => ?_) (fun c_8 => ?_)
  · skip
    refine lv_lload_n E.1.1 E.1.2.1 dX7_has_13 rfl (lv_at hl 2 rfl) ?_
    refine lv_lstore (lv' := [(5, .long (1601211905 : Int64)), (0, .ref qm), (1, .int (0 : Int32)), (2, .long (1601211905 : Int64)), (4, .int (5 : Int32))]) E.1.1 E.1.2.1 dX7_has_14 hl (by decide) rfl (fun ls hl => ?_)
    refine lv_iload E.1.1 E.1.2.1 dX7_has_16 (lv_at hl 4 rfl) ?_
    refine lv_iconst (v := 1) E.1.1 E.1.2.1 dX7_has_18 (by decide) ?_
    refine lv_isub E.1.1 E.1.2.1 dX7_has_19 ?_
    refine lv_cst (v := 4) (by decide) ?_
    refine lv_istore (lv' := [(7, .int (4 : Int32)), (5, .long (1601211905 : Int64)), (0, .ref qm), (1, .int (0 : Int32)), (2, .long (1601211905 : Int64)), (4, .int (5 : Int32))]) E.1.1 E.1.2.1 dX7_has_20 hl (by decide) rfl (fun ls hl => ?_)
    refine lv_iload E.1.1 E.1.2.1 dX7_has_22 (lv_at hl 0 rfl) ?_
    refine lv_if_lt (tgt := 81) E.1.1 E.1.2.1 dX7_has_24 (by decide) (fun c_24 => ?_) (fun c_24 => ?_)
    · exact absurd c_24 (by decide)
    · skip
      refine lv_lload E.1.1 E.1.2.1 dX7_has_27 (lv_at hl 1 rfl) ?_
      refine lv_ldc2 (v := 100) E.1.1 E.1.2.1 E.1.2.2.2.1 (E.1.2.2.2.2 _ mj_X7_76) dX7_has_29 ?_
      refine lv_lrem E.1.1 E.1.2.1 dX7_has_32 (by decide) ?_
      refine lv_cstl (v := 5) (by decide) ?_
      refine lv_l2i (v := 5) E.1.1 E.1.2.1 dX7_has_33 (by decide) ?_
      refine lv_istore (lv' := [(8, .int (5 : Int32)), (7, .int (4 : Int32)), (5, .long (1601211905 : Int64)), (0, .ref qm), (1, .int (0 : Int32)), (2, .long (1601211905 : Int64)), (4, .int (5 : Int32))]) E.1.1 E.1.2.1 dX7_has_34 hl (by decide) rfl (fun ls hl => ?_)
      refine lv_aload_n E.1.1 E.1.2.1 dX7_has_36 rfl (lv_at hl 3 rfl) ?_
      refine gf_X7_53 E Y 0 rfl rfl dX7_has_37 ?_
      refine lv_iload_n E.1.1 E.1.2.1 dX7_has_40 rfl (lv_at hl 4 rfl) ?_
      refine lv_iload E.1.1 E.1.2.1 dX7_has_41 (lv_at hl 1 rfl) ?_
      refine lv_iadd E.1.1 E.1.2.1 dX7_has_43 ?_
      refine lv_cst (v := 4) (by decide) ?_
      refine r_ial E Y 7 rfl (4) (by decide) (by unfold vp_in; decide) dX7_has_44 ?_
      refine lv_iload E.1.1 E.1.2.1 dX7_has_45 (lv_at hl 0 rfl) ?_
      refine lv_bipush (v := 27) E.1.1 E.1.2.1 dX7_has_47 (by decide) ?_
      refine lv_icmp_ne (tgt := 57) E.1.1 E.1.2.1 dX7_has_49 (by decide) (fun c_49 => ?_) (fun c_49 => ?_)
      · skip
        refine lv_bipush (v := 96) E.1.1 E.1.2.1 dX7_has_57 (by decide) ?_
        refine lv_iload E.1.1 E.1.2.1 dX7_has_59 (lv_at hl 0 rfl) ?_
        refine lv_iadd E.1.1 E.1.2.1 dX7_has_61 ?_
        refine lv_cst (v := 101) (by decide) ?_
        refine lv_icmp_eq (tgt := 67) E.1.1 E.1.2.1 dX7_has_62 (by decide) (fun c_62 => ?_) (fun c_62 => ?_)
        · skip
          refine lv_lload E.1.1 E.1.2.1 dX7_has_67 (lv_at hl 2 rfl) ?_
          refine lv_ldc2 (v := 100) E.1.1 E.1.2.1 E.1.2.2.2.1 (E.1.2.2.2.2 _ mj_X7_76) dX7_has_69 ?_
          refine lv_ldiv E.1.1 E.1.2.1 dX7_has_72 (by decide) ?_
          refine lv_cstl (v := 16012119) (by decide) ?_
          refine lv_lstore (lv' := [(5, .long (16012119 : Int64)), (8, .int (5 : Int32)), (7, .int (4 : Int32)), (0, .ref qm), (1, .int (0 : Int32)), (2, .long (1601211905 : Int64)), (4, .int (5 : Int32))]) E.1.1 E.1.2.1 dX7_has_73 hl (by decide) rfl (fun ls hl => ?_)
          refine lv_iinc (v := (3 : Int32)) (lv' := [(7, .int (3 : Int32)), (5, .long (16012119 : Int64)), (8, .int (5 : Int32)), (0, .ref qm), (1, .int (0 : Int32)), (2, .long (1601211905 : Int64)), (4, .int (5 : Int32))]) E.1.1 E.1.2.1 dX7_has_75 hl (k := 2) rfl (by decide) (by decide) rfl (fun ls hl => ?_)
          refine lv_goto (tgt := 22) E.1.1 E.1.2.1 dX7_has_78 (by decide) ?_
          refine lv_iload E.1.1 E.1.2.1 dX7_has_22 (lv_at hl 0 rfl) ?_
          refine lv_if_lt (tgt := 81) E.1.1 E.1.2.1 dX7_has_24 (by decide) (fun c_24 => ?_) (fun c_24 => ?_)
          · exact absurd c_24 (by decide)
          · skip
            refine lv_lload E.1.1 E.1.2.1 dX7_has_27 (lv_at hl 1 rfl) ?_
            refine lv_ldc2 (v := 100) E.1.1 E.1.2.1 E.1.2.2.2.1 (E.1.2.2.2.2 _ mj_X7_76) dX7_has_29 ?_
            refine lv_lrem E.1.1 E.1.2.1 dX7_has_32 (by decide) ?_
            refine lv_cstl (v := 19) (by decide) ?_
            refine lv_l2i (v := 19) E.1.1 E.1.2.1 dX7_has_33 (by decide) ?_
            refine lv_istore (lv' := [(8, .int (19 : Int32)), (7, .int (3 : Int32)), (5, .long (16012119 : Int64)), (0, .ref qm), (1, .int (0 : Int32)), (2, .long (1601211905 : Int64)), (4, .int (5 : Int32))]) E.1.1 E.1.2.1 dX7_has_34 hl (by decide) rfl (fun ls hl => ?_)
            refine lv_aload_n E.1.1 E.1.2.1 dX7_has_36 rfl (lv_at hl 3 rfl) ?_
            refine gf_X7_53 E Y 0 rfl rfl dX7_has_37 ?_
            refine lv_iload_n E.1.1 E.1.2.1 dX7_has_40 rfl (lv_at hl 4 rfl) ?_
            refine lv_iload E.1.1 E.1.2.1 dX7_has_41 (lv_at hl 1 rfl) ?_
            refine lv_iadd E.1.1 E.1.2.1 dX7_has_43 ?_
            refine lv_cst (v := 3) (by decide) ?_
            refine r_ial E Y 7 rfl (3) (by decide) (by unfold vp_in; decide) dX7_has_44 ?_
            refine lv_iload E.1.1 E.1.2.1 dX7_has_45 (lv_at hl 0 rfl) ?_
            refine lv_bipush (v := 27) E.1.1 E.1.2.1 dX7_has_47 (by decide) ?_
            refine lv_icmp_ne (tgt := 57) E.1.1 E.1.2.1 dX7_has_49 (by decide) (fun c_49 => ?_) (fun c_49 => ?_)
            · skip
              refine lv_bipush (v := 96) E.1.1 E.1.2.1 dX7_has_57 (by decide) ?_
              refine lv_iload E.1.1 E.1.2.1 dX7_has_59 (lv_at hl 0 rfl) ?_
              refine lv_iadd E.1.1 E.1.2.1 dX7_has_61 ?_
              refine lv_cst (v := 115) (by decide) ?_
              refine lv_icmp_eq (tgt := 67) E.1.1 E.1.2.1 dX7_has_62 (by decide) (fun c_62_r1 => ?_) (fun c_62_r1 => ?_)
              · skip
                refine lv_lload E.1.1 E.1.2.1 dX7_has_67 (lv_at hl 2 rfl) ?_
                refine lv_ldc2 (v := 100) E.1.1 E.1.2.1 E.1.2.2.2.1 (E.1.2.2.2.2 _ mj_X7_76) dX7_has_69 ?_
                refine lv_ldiv E.1.1 E.1.2.1 dX7_has_72 (by decide) ?_
                refine lv_cstl (v := 160121) (by decide) ?_
                refine lv_lstore (lv' := [(5, .long (160121 : Int64)), (8, .int (19 : Int32)), (7, .int (3 : Int32)), (0, .ref qm), (1, .int (0 : Int32)), (2, .long (1601211905 : Int64)), (4, .int (5 : Int32))]) E.1.1 E.1.2.1 dX7_has_73 hl (by decide) rfl (fun ls hl => ?_)
                refine lv_iinc (v := (2 : Int32)) (lv' := [(7, .int (2 : Int32)), (5, .long (160121 : Int64)), (8, .int (19 : Int32)), (0, .ref qm), (1, .int (0 : Int32)), (2, .long (1601211905 : Int64)), (4, .int (5 : Int32))]) E.1.1 E.1.2.1 dX7_has_75 hl (k := 2) rfl (by decide) (by decide) rfl (fun ls hl => ?_)
                refine lv_goto (tgt := 22) E.1.1 E.1.2.1 dX7_has_78 (by decide) ?_
                refine lv_iload E.1.1 E.1.2.1 dX7_has_22 (lv_at hl 0 rfl) ?_
                refine lv_if_lt (tgt := 81) E.1.1 E.1.2.1 dX7_has_24 (by decide) (fun c_24 => ?_) (fun c_24 => ?_)
                · exact absurd c_24 (by decide)
                · skip
                  refine lv_lload E.1.1 E.1.2.1 dX7_has_27 (lv_at hl 1 rfl) ?_
                  refine lv_ldc2 (v := 100) E.1.1 E.1.2.1 E.1.2.2.2.1 (E.1.2.2.2.2 _ mj_X7_76) dX7_has_29 ?_
                  refine lv_lrem E.1.1 E.1.2.1 dX7_has_32 (by decide) ?_
                  refine lv_cstl (v := 21) (by decide) ?_
                  refine lv_l2i (v := 21) E.1.1 E.1.2.1 dX7_has_33 (by decide) ?_
                  refine lv_istore (lv' := [(8, .int (21 : Int32)), (7, .int (2 : Int32)), (5, .long (160121 : Int64)), (0, .ref qm), (1, .int (0 : Int32)), (2, .long (1601211905 : Int64)), (4, .int (5 : Int32))]) E.1.1 E.1.2.1 dX7_has_34 hl (by decide) rfl (fun ls hl => ?_)
                  refine lv_aload_n E.1.1 E.1.2.1 dX7_has_36 rfl (lv_at hl 3 rfl) ?_
                  refine gf_X7_53 E Y 0 rfl rfl dX7_has_37 ?_
                  refine lv_iload_n E.1.1 E.1.2.1 dX7_has_40 rfl (lv_at hl 4 rfl) ?_
                  refine lv_iload E.1.1 E.1.2.1 dX7_has_41 (lv_at hl 1 rfl) ?_
                  refine lv_iadd E.1.1 E.1.2.1 dX7_has_43 ?_
                  refine lv_cst (v := 2) (by decide) ?_
                  refine r_ial E Y 7 rfl (2) (by decide) (by unfold vp_in; decide) dX7_has_44 ?_
                  refine lv_iload E.1.1 E.1.2.1 dX7_has_45 (lv_at hl 0 rfl) ?_
                  refine lv_bipush (v := 27) E.1.1 E.1.2.1 dX7_has_47 (by decide) ?_
                  refine lv_icmp_ne (tgt := 57) E.1.1 E.1.2.1 dX7_has_49 (by decide) (fun c_49 => ?_) (fun c_49 => ?_)
                  · skip
                    refine lv_bipush (v := 96) E.1.1 E.1.2.1 dX7_has_57 (by decide) ?_
                    refine lv_iload E.1.1 E.1.2.1 dX7_has_59 (lv_at hl 0 rfl) ?_
                    refine lv_iadd E.1.1 E.1.2.1 dX7_has_61 ?_
                    refine lv_cst (v := 117) (by decide) ?_
                    refine lv_icmp_eq (tgt := 67) E.1.1 E.1.2.1 dX7_has_62 (by decide) (fun c_62_r2 => ?_) (fun c_62_r2 => ?_)
                    · skip
                      refine lv_lload E.1.1 E.1.2.1 dX7_has_67 (lv_at hl 2 rfl) ?_
                      refine lv_ldc2 (v := 100) E.1.1 E.1.2.1 E.1.2.2.2.1 (E.1.2.2.2.2 _ mj_X7_76) dX7_has_69 ?_
                      refine lv_ldiv E.1.1 E.1.2.1 dX7_has_72 (by decide) ?_
                      refine lv_cstl (v := 1601) (by decide) ?_
                      refine lv_lstore (lv' := [(5, .long (1601 : Int64)), (8, .int (21 : Int32)), (7, .int (2 : Int32)), (0, .ref qm), (1, .int (0 : Int32)), (2, .long (1601211905 : Int64)), (4, .int (5 : Int32))]) E.1.1 E.1.2.1 dX7_has_73 hl (by decide) rfl (fun ls hl => ?_)
                      refine lv_iinc (v := (1 : Int32)) (lv' := [(7, .int (1 : Int32)), (5, .long (1601 : Int64)), (8, .int (21 : Int32)), (0, .ref qm), (1, .int (0 : Int32)), (2, .long (1601211905 : Int64)), (4, .int (5 : Int32))]) E.1.1 E.1.2.1 dX7_has_75 hl (k := 2) rfl (by decide) (by decide) rfl (fun ls hl => ?_)
                      refine lv_goto (tgt := 22) E.1.1 E.1.2.1 dX7_has_78 (by decide) ?_
                      refine lv_iload E.1.1 E.1.2.1 dX7_has_22 (lv_at hl 0 rfl) ?_
                      refine lv_if_lt (tgt := 81) E.1.1 E.1.2.1 dX7_has_24 (by decide) (fun c_24 => ?_) (fun c_24 => ?_)
                      · exact absurd c_24 (by decide)
                      · skip
                        refine lv_lload E.1.1 E.1.2.1 dX7_has_27 (lv_at hl 1 rfl) ?_
                        refine lv_ldc2 (v := 100) E.1.1 E.1.2.1 E.1.2.2.2.1 (E.1.2.2.2.2 _ mj_X7_76) dX7_has_29 ?_
                        refine lv_lrem E.1.1 E.1.2.1 dX7_has_32 (by decide) ?_
                        refine lv_cstl (v := 1) (by decide) ?_
                        refine lv_l2i (v := 1) E.1.1 E.1.2.1 dX7_has_33 (by decide) ?_
                        refine lv_istore (lv' := [(8, .int (1 : Int32)), (7, .int (1 : Int32)), (5, .long (1601 : Int64)), (0, .ref qm), (1, .int (0 : Int32)), (2, .long (1601211905 : Int64)), (4, .int (5 : Int32))]) E.1.1 E.1.2.1 dX7_has_34 hl (by decide) rfl (fun ls hl => ?_)
                        refine lv_aload_n E.1.1 E.1.2.1 dX7_has_36 rfl (lv_at hl 3 rfl) ?_
                        refine gf_X7_53 E Y 0 rfl rfl dX7_has_37 ?_
                        refine lv_iload_n E.1.1 E.1.2.1 dX7_has_40 rfl (lv_at hl 4 rfl) ?_
                        refine lv_iload E.1.1 E.1.2.1 dX7_has_41 (lv_at hl 1 rfl) ?_
                        refine lv_iadd E.1.1 E.1.2.1 dX7_has_43 ?_
                        refine lv_cst (v := 1) (by decide) ?_
                        refine r_ial E Y 7 rfl (1) (by decide) (by unfold vp_in; decide) dX7_has_44 ?_
                        refine lv_iload E.1.1 E.1.2.1 dX7_has_45 (lv_at hl 0 rfl) ?_
                        refine lv_bipush (v := 27) E.1.1 E.1.2.1 dX7_has_47 (by decide) ?_
                        refine lv_icmp_ne (tgt := 57) E.1.1 E.1.2.1 dX7_has_49 (by decide) (fun c_49 => ?_) (fun c_49 => ?_)
                        · skip
                          refine lv_bipush (v := 96) E.1.1 E.1.2.1 dX7_has_57 (by decide) ?_
                          refine lv_iload E.1.1 E.1.2.1 dX7_has_59 (lv_at hl 0 rfl) ?_
                          refine lv_iadd E.1.1 E.1.2.1 dX7_has_61 ?_
                          refine lv_cst (v := 97) (by decide) ?_
                          refine lv_icmp_eq (tgt := 67) E.1.1 E.1.2.1 dX7_has_62 (by decide) (fun c_62_r3 => ?_) (fun c_62_r3 => ?_)
                          · skip
                            refine lv_lload E.1.1 E.1.2.1 dX7_has_67 (lv_at hl 2 rfl) ?_
                            refine lv_ldc2 (v := 100) E.1.1 E.1.2.1 E.1.2.2.2.1 (E.1.2.2.2.2 _ mj_X7_76) dX7_has_69 ?_
                            refine lv_ldiv E.1.1 E.1.2.1 dX7_has_72 (by decide) ?_
                            refine lv_cstl (v := 16) (by decide) ?_
                            refine lv_lstore (lv' := [(5, .long (16 : Int64)), (8, .int (1 : Int32)), (7, .int (1 : Int32)), (0, .ref qm), (1, .int (0 : Int32)), (2, .long (1601211905 : Int64)), (4, .int (5 : Int32))]) E.1.1 E.1.2.1 dX7_has_73 hl (by decide) rfl (fun ls hl => ?_)
                            refine lv_iinc (v := (0 : Int32)) (lv' := [(7, .int (0 : Int32)), (5, .long (16 : Int64)), (8, .int (1 : Int32)), (0, .ref qm), (1, .int (0 : Int32)), (2, .long (1601211905 : Int64)), (4, .int (5 : Int32))]) E.1.1 E.1.2.1 dX7_has_75 hl (k := 2) rfl (by decide) (by decide) rfl (fun ls hl => ?_)
                            refine lv_goto (tgt := 22) E.1.1 E.1.2.1 dX7_has_78 (by decide) ?_
                            refine lv_iload E.1.1 E.1.2.1 dX7_has_22 (lv_at hl 0 rfl) ?_
                            refine lv_if_lt (tgt := 81) E.1.1 E.1.2.1 dX7_has_24 (by decide) (fun c_24 => ?_) (fun c_24 => ?_)
                            · exact absurd c_24 (by decide)
                            · skip
                              refine lv_lload E.1.1 E.1.2.1 dX7_has_27 (lv_at hl 1 rfl) ?_
                              refine lv_ldc2 (v := 100) E.1.1 E.1.2.1 E.1.2.2.2.1 (E.1.2.2.2.2 _ mj_X7_76) dX7_has_29 ?_
                              refine lv_lrem E.1.1 E.1.2.1 dX7_has_32 (by decide) ?_
                              refine lv_cstl (v := 16) (by decide) ?_
                              refine lv_l2i (v := 16) E.1.1 E.1.2.1 dX7_has_33 (by decide) ?_
                              refine lv_istore (lv' := [(8, .int (16 : Int32)), (7, .int (0 : Int32)), (5, .long (16 : Int64)), (0, .ref qm), (1, .int (0 : Int32)), (2, .long (1601211905 : Int64)), (4, .int (5 : Int32))]) E.1.1 E.1.2.1 dX7_has_34 hl (by decide) rfl (fun ls hl => ?_)
                              refine lv_aload_n E.1.1 E.1.2.1 dX7_has_36 rfl (lv_at hl 3 rfl) ?_
                              refine gf_X7_53 E Y 0 rfl rfl dX7_has_37 ?_
                              refine lv_iload_n E.1.1 E.1.2.1 dX7_has_40 rfl (lv_at hl 4 rfl) ?_
                              refine lv_iload E.1.1 E.1.2.1 dX7_has_41 (lv_at hl 1 rfl) ?_
                              refine lv_iadd E.1.1 E.1.2.1 dX7_has_43 ?_
                              refine lv_cst (v := 0) (by decide) ?_
                              refine r_ial E Y 7 rfl (0) (by decide) (by unfold vp_in; decide) dX7_has_44 ?_
                              refine lv_iload E.1.1 E.1.2.1 dX7_has_45 (lv_at hl 0 rfl) ?_
                              refine lv_bipush (v := 27) E.1.1 E.1.2.1 dX7_has_47 (by decide) ?_
                              refine lv_icmp_ne (tgt := 57) E.1.1 E.1.2.1 dX7_has_49 (by decide) (fun c_49 => ?_) (fun c_49 => ?_)
                              · skip
                                refine lv_bipush (v := 96) E.1.1 E.1.2.1 dX7_has_57 (by decide) ?_
                                refine lv_iload E.1.1 E.1.2.1 dX7_has_59 (lv_at hl 0 rfl) ?_
                                refine lv_iadd E.1.1 E.1.2.1 dX7_has_61 ?_
                                refine lv_cst (v := 112) (by decide) ?_
                                refine lv_icmp_eq (tgt := 67) E.1.1 E.1.2.1 dX7_has_62 (by decide) (fun c_62_r4 => ?_) (fun c_62_r4 => ?_)
                                · skip
                                  refine lv_lload E.1.1 E.1.2.1 dX7_has_67 (lv_at hl 2 rfl) ?_
                                  refine lv_ldc2 (v := 100) E.1.1 E.1.2.1 E.1.2.2.2.1 (E.1.2.2.2.2 _ mj_X7_76) dX7_has_69 ?_
                                  refine lv_ldiv E.1.1 E.1.2.1 dX7_has_72 (by decide) ?_
                                  refine lv_cstl (v := 0) (by decide) ?_
                                  refine lv_lstore (lv' := [(5, .long (0 : Int64)), (8, .int (16 : Int32)), (7, .int (0 : Int32)), (0, .ref qm), (1, .int (0 : Int32)), (2, .long (1601211905 : Int64)), (4, .int (5 : Int32))]) E.1.1 E.1.2.1 dX7_has_73 hl (by decide) rfl (fun ls hl => ?_)
                                  refine lv_iinc (v := (-1 : Int32)) (lv' := [(7, .int (-1 : Int32)), (5, .long (0 : Int64)), (8, .int (16 : Int32)), (0, .ref qm), (1, .int (0 : Int32)), (2, .long (1601211905 : Int64)), (4, .int (5 : Int32))]) E.1.1 E.1.2.1 dX7_has_75 hl (k := 2) rfl (by decide) (by decide) rfl (fun ls hl => ?_)
                                  refine lv_goto (tgt := 22) E.1.1 E.1.2.1 dX7_has_78 (by decide) ?_
                                  refine lv_iload E.1.1 E.1.2.1 dX7_has_22 (lv_at hl 0 rfl) ?_
                                  refine lv_if_lt (tgt := 81) E.1.1 E.1.2.1 dX7_has_24 (by decide) (fun c_24 => ?_) (fun c_24 => ?_)
                                  · skip
                                    refine lv_iconst (v := 1) E.1.1 E.1.2.1 dX7_has_81 (by decide) ?_
                                    have e9 : (f_X7_has_pause y) = (1 : Int32) := (if_pos c_8).trans ((if_pos c_62).trans ((if_pos c_62_r1).trans ((if_pos c_62_r2).trans ((if_pos c_62_r3).trans ((if_pos c_62_r4).trans (rfl))))))
                                    exact r_zret E Y hr hk (1 : Int32) rfl () (e9.symm) rfl ⟨Nat.le_of_ble_eq_true rfl, Nat.le_of_ble_eq_true rfl⟩ dX7_has_82
                                  · exact absurd (by decide) c_24
                                · skip
                                  refine lv_iconst (v := 0) E.1.1 E.1.2.1 dX7_has_65 (by decide) ?_
                                  have e9 : (f_X7_has_pause y) = (0 : Int32) := (if_pos c_8).trans ((if_pos c_62).trans ((if_pos c_62_r1).trans ((if_pos c_62_r2).trans ((if_pos c_62_r3).trans ((if_neg c_62_r4).trans (rfl))))))
                                  exact r_zret E Y hr hk (0 : Int32) rfl () (e9.symm) rfl ⟨Nat.le_of_ble_eq_true rfl, Nat.le_of_ble_eq_true rfl⟩ dX7_has_66
                              · exact absurd c_49 (by decide)
                          · skip
                            refine lv_iconst (v := 0) E.1.1 E.1.2.1 dX7_has_65 (by decide) ?_
                            have e9 : (f_X7_has_pause y) = (0 : Int32) := (if_pos c_8).trans ((if_pos c_62).trans ((if_pos c_62_r1).trans ((if_pos c_62_r2).trans ((if_neg c_62_r3).trans (rfl)))))
                            exact r_zret E Y hr hk (0 : Int32) rfl () (e9.symm) rfl ⟨Nat.le_of_ble_eq_true rfl, Nat.le_of_ble_eq_true rfl⟩ dX7_has_66
                        · exact absurd c_49 (by decide)
                    · skip
                      refine lv_iconst (v := 0) E.1.1 E.1.2.1 dX7_has_65 (by decide) ?_
                      have e9 : (f_X7_has_pause y) = (0 : Int32) := (if_pos c_8).trans ((if_pos c_62).trans ((if_pos c_62_r1).trans ((if_neg c_62_r2).trans (rfl))))
                      exact r_zret E Y hr hk (0 : Int32) rfl () (e9.symm) rfl ⟨Nat.le_of_ble_eq_true rfl, Nat.le_of_ble_eq_true rfl⟩ dX7_has_66
                  · exact absurd c_49 (by decide)
              · skip
                refine lv_iconst (v := 0) E.1.1 E.1.2.1 dX7_has_65 (by decide) ?_
                have e9 : (f_X7_has_pause y) = (0 : Int32) := (if_pos c_8).trans ((if_pos c_62).trans ((if_neg c_62_r1).trans (rfl)))
                exact r_zret E Y hr hk (0 : Int32) rfl () (e9.symm) rfl ⟨Nat.le_of_ble_eq_true rfl, Nat.le_of_ble_eq_true rfl⟩ dX7_has_66
            · exact absurd c_49 (by decide)
        · skip
          refine lv_iconst (v := 0) E.1.1 E.1.2.1 dX7_has_65 (by decide) ?_
          have e9 : (f_X7_has_pause y) = (0 : Int32) := (if_pos c_8).trans ((if_neg c_62).trans (rfl))
          exact r_zret E Y hr hk (0 : Int32) rfl () (e9.symm) rfl ⟨Nat.le_of_ble_eq_true rfl, Nat.le_of_ble_eq_true rfl⟩ dX7_has_66
      · exact absurd c_49 (by decide)
  · skip
    refine lv_iconst (v := 0) E.1.1 E.1.2.1 dX7_has_11 (by decide) ?_
    have e9 : (f_X7_has_pause y) = (0 : Int32) := (if_neg c_8).trans (rfl)
    exact r_zret E Y hr hk (0 : Int32) rfl () (e9.symm) rfl ⟨Nat.le_of_ble_eq_true rfl, Nat.le_of_ble_eq_true rfl⟩ dX7_has_12

def f_X7_has_play (y : Ky) : Int32 := if (4 : Int32) ≤ (y.1 1) then (if (y.2 (3)) = (121 : Int32) then (if (y.2 (2)) = (97 : Int32) then (if (y.2 (1)) = (108 : Int32) then (if (y.2 (0)) = (112 : Int32) then (1 : Int32) else (0 : Int32)) else (0 : Int32)) else (0 : Int32)) else (0 : Int32)) else (0 : Int32)
set_option maxRecDepth 100000 in
set_option maxHeartbeats 4000000 in
theorem c_X7_has_play {l : Launch} {D : va_G} {cI cB : ClassId} (qm mb ma me mr mn ms mk : Nat) (k : Cf) (v : Fn) (a : Fn) (y : Ky) : CI l X0 D cI cB yX7_has cX7_has 9 (some .boolean) 0 0 0 0 [.ref qm, .int (0 : Int32), .long (16120125 : Int64), .int (4 : Int32)] (wM cI qm mb ma me mr mn ms mk k v a y) (fun (r : Int32) (_ : Unit) => r = (f_X7_has_play y)) (fun _ => (wM cI qm mb ma me mr mn ms mk k v a y)) := by
  refine CI.of (by decide) (Nat.le_of_ble_eq_true rfl) ?_
  intro p e s m below meth c A ls E hr hk hin hA hAA hX Y hl
  have E : EE p c cX7_has 9 s _ m RX7 D cI cB := E
  have hl : lv_has ls 9 [(0, .ref qm), (1, .int (0 : Int32)), (2, .long (16120125 : Int64)), (4, .int (4 : Int32))] := hl
  refine lv_iload_n E.1.1 E.1.2.1 dX7_has_0 rfl (lv_at hl 1 rfl) ?_
  refine lv_iload E.1.1 E.1.2.1 dX7_has_1 (lv_at hl 3 rfl) ?_
  refine lv_iadd E.1.1 E.1.2.1 dX7_has_3 ?_
  refine lv_cst (v := 4) (by decide) ?_
  refine lv_aload_n E.1.1 E.1.2.1 dX7_has_4 rfl (lv_at hl 0 rfl) ?_
  refine gf_X7_73 E Y 0 rfl rfl dX7_has_5 ?_
  refine lv_icmp_le (tgt := 13) E.1.1 E.1.2.1 dX7_has_8 (by decide) (fun c_8 => ?_) (fun c_8 => ?_)
  · skip
    refine lv_lload_n E.1.1 E.1.2.1 dX7_has_13 rfl (lv_at hl 2 rfl) ?_
    refine lv_lstore (lv' := [(5, .long (16120125 : Int64)), (0, .ref qm), (1, .int (0 : Int32)), (2, .long (16120125 : Int64)), (4, .int (4 : Int32))]) E.1.1 E.1.2.1 dX7_has_14 hl (by decide) rfl (fun ls hl => ?_)
    refine lv_iload E.1.1 E.1.2.1 dX7_has_16 (lv_at hl 4 rfl) ?_
    refine lv_iconst (v := 1) E.1.1 E.1.2.1 dX7_has_18 (by decide) ?_
    refine lv_isub E.1.1 E.1.2.1 dX7_has_19 ?_
    refine lv_cst (v := 3) (by decide) ?_
    refine lv_istore (lv' := [(7, .int (3 : Int32)), (5, .long (16120125 : Int64)), (0, .ref qm), (1, .int (0 : Int32)), (2, .long (16120125 : Int64)), (4, .int (4 : Int32))]) E.1.1 E.1.2.1 dX7_has_20 hl (by decide) rfl (fun ls hl => ?_)
    refine lv_iload E.1.1 E.1.2.1 dX7_has_22 (lv_at hl 0 rfl) ?_
    refine lv_if_lt (tgt := 81) E.1.1 E.1.2.1 dX7_has_24 (by decide) (fun c_24 => ?_) (fun c_24 => ?_)
    · exact absurd c_24 (by decide)
    · skip
      refine lv_lload E.1.1 E.1.2.1 dX7_has_27 (lv_at hl 1 rfl) ?_
      refine lv_ldc2 (v := 100) E.1.1 E.1.2.1 E.1.2.2.2.1 (E.1.2.2.2.2 _ mj_X7_76) dX7_has_29 ?_
      refine lv_lrem E.1.1 E.1.2.1 dX7_has_32 (by decide) ?_
      refine lv_cstl (v := 25) (by decide) ?_
      refine lv_l2i (v := 25) E.1.1 E.1.2.1 dX7_has_33 (by decide) ?_
      refine lv_istore (lv' := [(8, .int (25 : Int32)), (7, .int (3 : Int32)), (5, .long (16120125 : Int64)), (0, .ref qm), (1, .int (0 : Int32)), (2, .long (16120125 : Int64)), (4, .int (4 : Int32))]) E.1.1 E.1.2.1 dX7_has_34 hl (by decide) rfl (fun ls hl => ?_)
      refine lv_aload_n E.1.1 E.1.2.1 dX7_has_36 rfl (lv_at hl 3 rfl) ?_
      refine gf_X7_53 E Y 0 rfl rfl dX7_has_37 ?_
      refine lv_iload_n E.1.1 E.1.2.1 dX7_has_40 rfl (lv_at hl 4 rfl) ?_
      refine lv_iload E.1.1 E.1.2.1 dX7_has_41 (lv_at hl 1 rfl) ?_
      refine lv_iadd E.1.1 E.1.2.1 dX7_has_43 ?_
      refine lv_cst (v := 3) (by decide) ?_
      refine r_ial E Y 7 rfl (3) (by decide) (by unfold vp_in; decide) dX7_has_44 ?_
      refine lv_iload E.1.1 E.1.2.1 dX7_has_45 (lv_at hl 0 rfl) ?_
      refine lv_bipush (v := 27) E.1.1 E.1.2.1 dX7_has_47 (by decide) ?_
      refine lv_icmp_ne (tgt := 57) E.1.1 E.1.2.1 dX7_has_49 (by decide) (fun c_49 => ?_) (fun c_49 => ?_)
      · skip
        refine lv_bipush (v := 96) E.1.1 E.1.2.1 dX7_has_57 (by decide) ?_
        refine lv_iload E.1.1 E.1.2.1 dX7_has_59 (lv_at hl 0 rfl) ?_
        refine lv_iadd E.1.1 E.1.2.1 dX7_has_61 ?_
        refine lv_cst (v := 121) (by decide) ?_
        refine lv_icmp_eq (tgt := 67) E.1.1 E.1.2.1 dX7_has_62 (by decide) (fun c_62 => ?_) (fun c_62 => ?_)
        · skip
          refine lv_lload E.1.1 E.1.2.1 dX7_has_67 (lv_at hl 2 rfl) ?_
          refine lv_ldc2 (v := 100) E.1.1 E.1.2.1 E.1.2.2.2.1 (E.1.2.2.2.2 _ mj_X7_76) dX7_has_69 ?_
          refine lv_ldiv E.1.1 E.1.2.1 dX7_has_72 (by decide) ?_
          refine lv_cstl (v := 161201) (by decide) ?_
          refine lv_lstore (lv' := [(5, .long (161201 : Int64)), (8, .int (25 : Int32)), (7, .int (3 : Int32)), (0, .ref qm), (1, .int (0 : Int32)), (2, .long (16120125 : Int64)), (4, .int (4 : Int32))]) E.1.1 E.1.2.1 dX7_has_73 hl (by decide) rfl (fun ls hl => ?_)
          refine lv_iinc (v := (2 : Int32)) (lv' := [(7, .int (2 : Int32)), (5, .long (161201 : Int64)), (8, .int (25 : Int32)), (0, .ref qm), (1, .int (0 : Int32)), (2, .long (16120125 : Int64)), (4, .int (4 : Int32))]) E.1.1 E.1.2.1 dX7_has_75 hl (k := 2) rfl (by decide) (by decide) rfl (fun ls hl => ?_)
          refine lv_goto (tgt := 22) E.1.1 E.1.2.1 dX7_has_78 (by decide) ?_
          refine lv_iload E.1.1 E.1.2.1 dX7_has_22 (lv_at hl 0 rfl) ?_
          refine lv_if_lt (tgt := 81) E.1.1 E.1.2.1 dX7_has_24 (by decide) (fun c_24 => ?_) (fun c_24 => ?_)
          · exact absurd c_24 (by decide)
          · skip
            refine lv_lload E.1.1 E.1.2.1 dX7_has_27 (lv_at hl 1 rfl) ?_
            refine lv_ldc2 (v := 100) E.1.1 E.1.2.1 E.1.2.2.2.1 (E.1.2.2.2.2 _ mj_X7_76) dX7_has_29 ?_
            refine lv_lrem E.1.1 E.1.2.1 dX7_has_32 (by decide) ?_
            refine lv_cstl (v := 1) (by decide) ?_
            refine lv_l2i (v := 1) E.1.1 E.1.2.1 dX7_has_33 (by decide) ?_
            refine lv_istore (lv' := [(8, .int (1 : Int32)), (7, .int (2 : Int32)), (5, .long (161201 : Int64)), (0, .ref qm), (1, .int (0 : Int32)), (2, .long (16120125 : Int64)), (4, .int (4 : Int32))]) E.1.1 E.1.2.1 dX7_has_34 hl (by decide) rfl (fun ls hl => ?_)
            refine lv_aload_n E.1.1 E.1.2.1 dX7_has_36 rfl (lv_at hl 3 rfl) ?_
            refine gf_X7_53 E Y 0 rfl rfl dX7_has_37 ?_
            refine lv_iload_n E.1.1 E.1.2.1 dX7_has_40 rfl (lv_at hl 4 rfl) ?_
            refine lv_iload E.1.1 E.1.2.1 dX7_has_41 (lv_at hl 1 rfl) ?_
            refine lv_iadd E.1.1 E.1.2.1 dX7_has_43 ?_
            refine lv_cst (v := 2) (by decide) ?_
            refine r_ial E Y 7 rfl (2) (by decide) (by unfold vp_in; decide) dX7_has_44 ?_
            refine lv_iload E.1.1 E.1.2.1 dX7_has_45 (lv_at hl 0 rfl) ?_
            refine lv_bipush (v := 27) E.1.1 E.1.2.1 dX7_has_47 (by decide) ?_
            refine lv_icmp_ne (tgt := 57) E.1.1 E.1.2.1 dX7_has_49 (by decide) (fun c_49 => ?_) (fun c_49 => ?_)
            · skip
              refine lv_bipush (v := 96) E.1.1 E.1.2.1 dX7_has_57 (by decide) ?_
              refine lv_iload E.1.1 E.1.2.1 dX7_has_59 (lv_at hl 0 rfl) ?_
              refine lv_iadd E.1.1 E.1.2.1 dX7_has_61 ?_
              refine lv_cst (v := 97) (by decide) ?_
              refine lv_icmp_eq (tgt := 67) E.1.1 E.1.2.1 dX7_has_62 (by decide) (fun c_62_r1 => ?_) (fun c_62_r1 => ?_)
              · skip
                refine lv_lload E.1.1 E.1.2.1 dX7_has_67 (lv_at hl 2 rfl) ?_
                refine lv_ldc2 (v := 100) E.1.1 E.1.2.1 E.1.2.2.2.1 (E.1.2.2.2.2 _ mj_X7_76) dX7_has_69 ?_
                refine lv_ldiv E.1.1 E.1.2.1 dX7_has_72 (by decide) ?_
                refine lv_cstl (v := 1612) (by decide) ?_
                refine lv_lstore (lv' := [(5, .long (1612 : Int64)), (8, .int (1 : Int32)), (7, .int (2 : Int32)), (0, .ref qm), (1, .int (0 : Int32)), (2, .long (16120125 : Int64)), (4, .int (4 : Int32))]) E.1.1 E.1.2.1 dX7_has_73 hl (by decide) rfl (fun ls hl => ?_)
                refine lv_iinc (v := (1 : Int32)) (lv' := [(7, .int (1 : Int32)), (5, .long (1612 : Int64)), (8, .int (1 : Int32)), (0, .ref qm), (1, .int (0 : Int32)), (2, .long (16120125 : Int64)), (4, .int (4 : Int32))]) E.1.1 E.1.2.1 dX7_has_75 hl (k := 2) rfl (by decide) (by decide) rfl (fun ls hl => ?_)
                refine lv_goto (tgt := 22) E.1.1 E.1.2.1 dX7_has_78 (by decide) ?_
                refine lv_iload E.1.1 E.1.2.1 dX7_has_22 (lv_at hl 0 rfl) ?_
                refine lv_if_lt (tgt := 81) E.1.1 E.1.2.1 dX7_has_24 (by decide) (fun c_24 => ?_) (fun c_24 => ?_)
                · exact absurd c_24 (by decide)
                · skip
                  refine lv_lload E.1.1 E.1.2.1 dX7_has_27 (lv_at hl 1 rfl) ?_
                  refine lv_ldc2 (v := 100) E.1.1 E.1.2.1 E.1.2.2.2.1 (E.1.2.2.2.2 _ mj_X7_76) dX7_has_29 ?_
                  refine lv_lrem E.1.1 E.1.2.1 dX7_has_32 (by decide) ?_
                  refine lv_cstl (v := 12) (by decide) ?_
                  refine lv_l2i (v := 12) E.1.1 E.1.2.1 dX7_has_33 (by decide) ?_
                  refine lv_istore (lv' := [(8, .int (12 : Int32)), (7, .int (1 : Int32)), (5, .long (1612 : Int64)), (0, .ref qm), (1, .int (0 : Int32)), (2, .long (16120125 : Int64)), (4, .int (4 : Int32))]) E.1.1 E.1.2.1 dX7_has_34 hl (by decide) rfl (fun ls hl => ?_)
                  refine lv_aload_n E.1.1 E.1.2.1 dX7_has_36 rfl (lv_at hl 3 rfl) ?_
                  refine gf_X7_53 E Y 0 rfl rfl dX7_has_37 ?_
                  refine lv_iload_n E.1.1 E.1.2.1 dX7_has_40 rfl (lv_at hl 4 rfl) ?_
                  refine lv_iload E.1.1 E.1.2.1 dX7_has_41 (lv_at hl 1 rfl) ?_
                  refine lv_iadd E.1.1 E.1.2.1 dX7_has_43 ?_
                  refine lv_cst (v := 1) (by decide) ?_
                  refine r_ial E Y 7 rfl (1) (by decide) (by unfold vp_in; decide) dX7_has_44 ?_
                  refine lv_iload E.1.1 E.1.2.1 dX7_has_45 (lv_at hl 0 rfl) ?_
                  refine lv_bipush (v := 27) E.1.1 E.1.2.1 dX7_has_47 (by decide) ?_
                  refine lv_icmp_ne (tgt := 57) E.1.1 E.1.2.1 dX7_has_49 (by decide) (fun c_49 => ?_) (fun c_49 => ?_)
                  · skip
                    refine lv_bipush (v := 96) E.1.1 E.1.2.1 dX7_has_57 (by decide) ?_
                    refine lv_iload E.1.1 E.1.2.1 dX7_has_59 (lv_at hl 0 rfl) ?_
                    refine lv_iadd E.1.1 E.1.2.1 dX7_has_61 ?_
                    refine lv_cst (v := 108) (by decide) ?_
                    refine lv_icmp_eq (tgt := 67) E.1.1 E.1.2.1 dX7_has_62 (by decide) (fun c_62_r2 => ?_) (fun c_62_r2 => ?_)
                    · skip
                      refine lv_lload E.1.1 E.1.2.1 dX7_has_67 (lv_at hl 2 rfl) ?_
                      refine lv_ldc2 (v := 100) E.1.1 E.1.2.1 E.1.2.2.2.1 (E.1.2.2.2.2 _ mj_X7_76) dX7_has_69 ?_
                      refine lv_ldiv E.1.1 E.1.2.1 dX7_has_72 (by decide) ?_
                      refine lv_cstl (v := 16) (by decide) ?_
                      refine lv_lstore (lv' := [(5, .long (16 : Int64)), (8, .int (12 : Int32)), (7, .int (1 : Int32)), (0, .ref qm), (1, .int (0 : Int32)), (2, .long (16120125 : Int64)), (4, .int (4 : Int32))]) E.1.1 E.1.2.1 dX7_has_73 hl (by decide) rfl (fun ls hl => ?_)
                      refine lv_iinc (v := (0 : Int32)) (lv' := [(7, .int (0 : Int32)), (5, .long (16 : Int64)), (8, .int (12 : Int32)), (0, .ref qm), (1, .int (0 : Int32)), (2, .long (16120125 : Int64)), (4, .int (4 : Int32))]) E.1.1 E.1.2.1 dX7_has_75 hl (k := 2) rfl (by decide) (by decide) rfl (fun ls hl => ?_)
                      refine lv_goto (tgt := 22) E.1.1 E.1.2.1 dX7_has_78 (by decide) ?_
                      refine lv_iload E.1.1 E.1.2.1 dX7_has_22 (lv_at hl 0 rfl) ?_
                      refine lv_if_lt (tgt := 81) E.1.1 E.1.2.1 dX7_has_24 (by decide) (fun c_24 => ?_) (fun c_24 => ?_)
                      · exact absurd c_24 (by decide)
                      · skip
                        refine lv_lload E.1.1 E.1.2.1 dX7_has_27 (lv_at hl 1 rfl) ?_
                        refine lv_ldc2 (v := 100) E.1.1 E.1.2.1 E.1.2.2.2.1 (E.1.2.2.2.2 _ mj_X7_76) dX7_has_29 ?_
                        refine lv_lrem E.1.1 E.1.2.1 dX7_has_32 (by decide) ?_
                        refine lv_cstl (v := 16) (by decide) ?_
                        refine lv_l2i (v := 16) E.1.1 E.1.2.1 dX7_has_33 (by decide) ?_
                        refine lv_istore (lv' := [(8, .int (16 : Int32)), (7, .int (0 : Int32)), (5, .long (16 : Int64)), (0, .ref qm), (1, .int (0 : Int32)), (2, .long (16120125 : Int64)), (4, .int (4 : Int32))]) E.1.1 E.1.2.1 dX7_has_34 hl (by decide) rfl (fun ls hl => ?_)
                        refine lv_aload_n E.1.1 E.1.2.1 dX7_has_36 rfl (lv_at hl 3 rfl) ?_
                        refine gf_X7_53 E Y 0 rfl rfl dX7_has_37 ?_
                        refine lv_iload_n E.1.1 E.1.2.1 dX7_has_40 rfl (lv_at hl 4 rfl) ?_
                        refine lv_iload E.1.1 E.1.2.1 dX7_has_41 (lv_at hl 1 rfl) ?_
                        refine lv_iadd E.1.1 E.1.2.1 dX7_has_43 ?_
                        refine lv_cst (v := 0) (by decide) ?_
                        refine r_ial E Y 7 rfl (0) (by decide) (by unfold vp_in; decide) dX7_has_44 ?_
                        refine lv_iload E.1.1 E.1.2.1 dX7_has_45 (lv_at hl 0 rfl) ?_
                        refine lv_bipush (v := 27) E.1.1 E.1.2.1 dX7_has_47 (by decide) ?_
                        refine lv_icmp_ne (tgt := 57) E.1.1 E.1.2.1 dX7_has_49 (by decide) (fun c_49 => ?_) (fun c_49 => ?_)
                        · skip
                          refine lv_bipush (v := 96) E.1.1 E.1.2.1 dX7_has_57 (by decide) ?_
                          refine lv_iload E.1.1 E.1.2.1 dX7_has_59 (lv_at hl 0 rfl) ?_
                          refine lv_iadd E.1.1 E.1.2.1 dX7_has_61 ?_
                          refine lv_cst (v := 112) (by decide) ?_
                          refine lv_icmp_eq (tgt := 67) E.1.1 E.1.2.1 dX7_has_62 (by decide) (fun c_62_r3 => ?_) (fun c_62_r3 => ?_)
                          · skip
                            refine lv_lload E.1.1 E.1.2.1 dX7_has_67 (lv_at hl 2 rfl) ?_
                            refine lv_ldc2 (v := 100) E.1.1 E.1.2.1 E.1.2.2.2.1 (E.1.2.2.2.2 _ mj_X7_76) dX7_has_69 ?_
                            refine lv_ldiv E.1.1 E.1.2.1 dX7_has_72 (by decide) ?_
                            refine lv_cstl (v := 0) (by decide) ?_
                            refine lv_lstore (lv' := [(5, .long (0 : Int64)), (8, .int (16 : Int32)), (7, .int (0 : Int32)), (0, .ref qm), (1, .int (0 : Int32)), (2, .long (16120125 : Int64)), (4, .int (4 : Int32))]) E.1.1 E.1.2.1 dX7_has_73 hl (by decide) rfl (fun ls hl => ?_)
                            refine lv_iinc (v := (-1 : Int32)) (lv' := [(7, .int (-1 : Int32)), (5, .long (0 : Int64)), (8, .int (16 : Int32)), (0, .ref qm), (1, .int (0 : Int32)), (2, .long (16120125 : Int64)), (4, .int (4 : Int32))]) E.1.1 E.1.2.1 dX7_has_75 hl (k := 2) rfl (by decide) (by decide) rfl (fun ls hl => ?_)
                            refine lv_goto (tgt := 22) E.1.1 E.1.2.1 dX7_has_78 (by decide) ?_
                            refine lv_iload E.1.1 E.1.2.1 dX7_has_22 (lv_at hl 0 rfl) ?_
                            refine lv_if_lt (tgt := 81) E.1.1 E.1.2.1 dX7_has_24 (by decide) (fun c_24 => ?_) (fun c_24 => ?_)
                            · skip
                              refine lv_iconst (v := 1) E.1.1 E.1.2.1 dX7_has_81 (by decide) ?_
                              have e9 : (f_X7_has_play y) = (1 : Int32) := (if_pos c_8).trans ((if_pos c_62).trans ((if_pos c_62_r1).trans ((if_pos c_62_r2).trans ((if_pos c_62_r3).trans (rfl)))))
                              exact r_zret E Y hr hk (1 : Int32) rfl () (e9.symm) rfl ⟨Nat.le_of_ble_eq_true rfl, Nat.le_of_ble_eq_true rfl⟩ dX7_has_82
                            · exact absurd (by decide) c_24
                          · skip
                            refine lv_iconst (v := 0) E.1.1 E.1.2.1 dX7_has_65 (by decide) ?_
                            have e9 : (f_X7_has_play y) = (0 : Int32) := (if_pos c_8).trans ((if_pos c_62).trans ((if_pos c_62_r1).trans ((if_pos c_62_r2).trans ((if_neg c_62_r3).trans (rfl)))))
                            exact r_zret E Y hr hk (0 : Int32) rfl () (e9.symm) rfl ⟨Nat.le_of_ble_eq_true rfl, Nat.le_of_ble_eq_true rfl⟩ dX7_has_66
                        · exact absurd c_49 (by decide)
                    · skip
                      refine lv_iconst (v := 0) E.1.1 E.1.2.1 dX7_has_65 (by decide) ?_
                      have e9 : (f_X7_has_play y) = (0 : Int32) := (if_pos c_8).trans ((if_pos c_62).trans ((if_pos c_62_r1).trans ((if_neg c_62_r2).trans (rfl))))
                      exact r_zret E Y hr hk (0 : Int32) rfl () (e9.symm) rfl ⟨Nat.le_of_ble_eq_true rfl, Nat.le_of_ble_eq_true rfl⟩ dX7_has_66
                  · exact absurd c_49 (by decide)
              · skip
                refine lv_iconst (v := 0) E.1.1 E.1.2.1 dX7_has_65 (by decide) ?_
                have e9 : (f_X7_has_play y) = (0 : Int32) := (if_pos c_8).trans ((if_pos c_62).trans ((if_neg c_62_r1).trans (rfl)))
                exact r_zret E Y hr hk (0 : Int32) rfl () (e9.symm) rfl ⟨Nat.le_of_ble_eq_true rfl, Nat.le_of_ble_eq_true rfl⟩ dX7_has_66
            · exact absurd c_49 (by decide)
        · skip
          refine lv_iconst (v := 0) E.1.1 E.1.2.1 dX7_has_65 (by decide) ?_
          have e9 : (f_X7_has_play y) = (0 : Int32) := (if_pos c_8).trans ((if_neg c_62).trans (rfl))
          exact r_zret E Y hr hk (0 : Int32) rfl () (e9.symm) rfl ⟨Nat.le_of_ble_eq_true rfl, Nat.le_of_ble_eq_true rfl⟩ dX7_has_66
      · exact absurd c_49 (by decide)
  · skip
    refine lv_iconst (v := 0) E.1.1 E.1.2.1 dX7_has_11 (by decide) ?_
    have e9 : (f_X7_has_play y) = (0 : Int32) := (if_neg c_8).trans (rfl)
    exact r_zret E Y hr hk (0 : Int32) rfl () (e9.symm) rfl ⟨Nat.le_of_ble_eq_true rfl, Nat.le_of_ble_eq_true rfl⟩ dX7_has_12

def f_X7_has_fixed (y : Ky) : Int32 := if (12 : Int32) ≤ (y.1 1) then (if (y.2 (11)) = (100 : Int32) then (if (y.2 (10)) = (101 : Int32) then (if (y.2 (9)) = (120 : Int32) then (if (y.2 (8)) = (105 : Int32) then (if (y.2 (7)) = (102 : Int32) then (1 : Int32) else (0 : Int32)) else (0 : Int32)) else (0 : Int32)) else (0 : Int32)) else (0 : Int32)) else (0 : Int32)
set_option maxRecDepth 100000 in
set_option maxHeartbeats 4000000 in
theorem c_X7_has_fixed {l : Launch} {D : va_G} {cI cB : ClassId} (qm mb ma me mr mn ms mk : Nat) (k : Cf) (v : Fn) (a : Fn) (y : Ky) : CI l X0 D cI cB yX7_has cX7_has 9 (some .boolean) 0 0 0 0 [.ref qm, .int (7 : Int32), .long (609240504 : Int64), .int (5 : Int32)] (wM cI qm mb ma me mr mn ms mk k v a y) (fun (r : Int32) (_ : Unit) => r = (f_X7_has_fixed y)) (fun _ => (wM cI qm mb ma me mr mn ms mk k v a y)) := by
  refine CI.of (by decide) (Nat.le_of_ble_eq_true rfl) ?_
  intro p e s m below meth c A ls E hr hk hin hA hAA hX Y hl
  have E : EE p c cX7_has 9 s _ m RX7 D cI cB := E
  have hl : lv_has ls 9 [(0, .ref qm), (1, .int (7 : Int32)), (2, .long (609240504 : Int64)), (4, .int (5 : Int32))] := hl
  refine lv_iload_n E.1.1 E.1.2.1 dX7_has_0 rfl (lv_at hl 1 rfl) ?_
  refine lv_iload E.1.1 E.1.2.1 dX7_has_1 (lv_at hl 3 rfl) ?_
  refine lv_iadd E.1.1 E.1.2.1 dX7_has_3 ?_
  refine lv_cst (v := 12) (by decide) ?_
  refine lv_aload_n E.1.1 E.1.2.1 dX7_has_4 rfl (lv_at hl 0 rfl) ?_
  refine gf_X7_73 E Y 0 rfl rfl dX7_has_5 ?_
  refine lv_icmp_le (tgt := 13) E.1.1 E.1.2.1 dX7_has_8 (by decide) (fun c_8 => ?_) (fun c_8 => ?_)
  · skip
    refine lv_lload_n E.1.1 E.1.2.1 dX7_has_13 rfl (lv_at hl 2 rfl) ?_
    refine lv_lstore (lv' := [(5, .long (609240504 : Int64)), (0, .ref qm), (1, .int (7 : Int32)), (2, .long (609240504 : Int64)), (4, .int (5 : Int32))]) E.1.1 E.1.2.1 dX7_has_14 hl (by decide) rfl (fun ls hl => ?_)
    refine lv_iload E.1.1 E.1.2.1 dX7_has_16 (lv_at hl 4 rfl) ?_
    refine lv_iconst (v := 1) E.1.1 E.1.2.1 dX7_has_18 (by decide) ?_
    refine lv_isub E.1.1 E.1.2.1 dX7_has_19 ?_
    refine lv_cst (v := 4) (by decide) ?_
    refine lv_istore (lv' := [(7, .int (4 : Int32)), (5, .long (609240504 : Int64)), (0, .ref qm), (1, .int (7 : Int32)), (2, .long (609240504 : Int64)), (4, .int (5 : Int32))]) E.1.1 E.1.2.1 dX7_has_20 hl (by decide) rfl (fun ls hl => ?_)
    refine lv_iload E.1.1 E.1.2.1 dX7_has_22 (lv_at hl 0 rfl) ?_
    refine lv_if_lt (tgt := 81) E.1.1 E.1.2.1 dX7_has_24 (by decide) (fun c_24 => ?_) (fun c_24 => ?_)
    · exact absurd c_24 (by decide)
    · skip
      refine lv_lload E.1.1 E.1.2.1 dX7_has_27 (lv_at hl 1 rfl) ?_
      refine lv_ldc2 (v := 100) E.1.1 E.1.2.1 E.1.2.2.2.1 (E.1.2.2.2.2 _ mj_X7_76) dX7_has_29 ?_
      refine lv_lrem E.1.1 E.1.2.1 dX7_has_32 (by decide) ?_
      refine lv_cstl (v := 4) (by decide) ?_
      refine lv_l2i (v := 4) E.1.1 E.1.2.1 dX7_has_33 (by decide) ?_
      refine lv_istore (lv' := [(8, .int (4 : Int32)), (7, .int (4 : Int32)), (5, .long (609240504 : Int64)), (0, .ref qm), (1, .int (7 : Int32)), (2, .long (609240504 : Int64)), (4, .int (5 : Int32))]) E.1.1 E.1.2.1 dX7_has_34 hl (by decide) rfl (fun ls hl => ?_)
      refine lv_aload_n E.1.1 E.1.2.1 dX7_has_36 rfl (lv_at hl 3 rfl) ?_
      refine gf_X7_53 E Y 0 rfl rfl dX7_has_37 ?_
      refine lv_iload_n E.1.1 E.1.2.1 dX7_has_40 rfl (lv_at hl 4 rfl) ?_
      refine lv_iload E.1.1 E.1.2.1 dX7_has_41 (lv_at hl 1 rfl) ?_
      refine lv_iadd E.1.1 E.1.2.1 dX7_has_43 ?_
      refine lv_cst (v := 11) (by decide) ?_
      refine r_ial E Y 7 rfl (11) (by decide) (by unfold vp_in; decide) dX7_has_44 ?_
      refine lv_iload E.1.1 E.1.2.1 dX7_has_45 (lv_at hl 0 rfl) ?_
      refine lv_bipush (v := 27) E.1.1 E.1.2.1 dX7_has_47 (by decide) ?_
      refine lv_icmp_ne (tgt := 57) E.1.1 E.1.2.1 dX7_has_49 (by decide) (fun c_49 => ?_) (fun c_49 => ?_)
      · skip
        refine lv_bipush (v := 96) E.1.1 E.1.2.1 dX7_has_57 (by decide) ?_
        refine lv_iload E.1.1 E.1.2.1 dX7_has_59 (lv_at hl 0 rfl) ?_
        refine lv_iadd E.1.1 E.1.2.1 dX7_has_61 ?_
        refine lv_cst (v := 100) (by decide) ?_
        refine lv_icmp_eq (tgt := 67) E.1.1 E.1.2.1 dX7_has_62 (by decide) (fun c_62 => ?_) (fun c_62 => ?_)
        · skip
          refine lv_lload E.1.1 E.1.2.1 dX7_has_67 (lv_at hl 2 rfl) ?_
          refine lv_ldc2 (v := 100) E.1.1 E.1.2.1 E.1.2.2.2.1 (E.1.2.2.2.2 _ mj_X7_76) dX7_has_69 ?_
          refine lv_ldiv E.1.1 E.1.2.1 dX7_has_72 (by decide) ?_
          refine lv_cstl (v := 6092405) (by decide) ?_
          refine lv_lstore (lv' := [(5, .long (6092405 : Int64)), (8, .int (4 : Int32)), (7, .int (4 : Int32)), (0, .ref qm), (1, .int (7 : Int32)), (2, .long (609240504 : Int64)), (4, .int (5 : Int32))]) E.1.1 E.1.2.1 dX7_has_73 hl (by decide) rfl (fun ls hl => ?_)
          refine lv_iinc (v := (3 : Int32)) (lv' := [(7, .int (3 : Int32)), (5, .long (6092405 : Int64)), (8, .int (4 : Int32)), (0, .ref qm), (1, .int (7 : Int32)), (2, .long (609240504 : Int64)), (4, .int (5 : Int32))]) E.1.1 E.1.2.1 dX7_has_75 hl (k := 2) rfl (by decide) (by decide) rfl (fun ls hl => ?_)
          refine lv_goto (tgt := 22) E.1.1 E.1.2.1 dX7_has_78 (by decide) ?_
          refine lv_iload E.1.1 E.1.2.1 dX7_has_22 (lv_at hl 0 rfl) ?_
          refine lv_if_lt (tgt := 81) E.1.1 E.1.2.1 dX7_has_24 (by decide) (fun c_24 => ?_) (fun c_24 => ?_)
          · exact absurd c_24 (by decide)
          · skip
            refine lv_lload E.1.1 E.1.2.1 dX7_has_27 (lv_at hl 1 rfl) ?_
            refine lv_ldc2 (v := 100) E.1.1 E.1.2.1 E.1.2.2.2.1 (E.1.2.2.2.2 _ mj_X7_76) dX7_has_29 ?_
            refine lv_lrem E.1.1 E.1.2.1 dX7_has_32 (by decide) ?_
            refine lv_cstl (v := 5) (by decide) ?_
            refine lv_l2i (v := 5) E.1.1 E.1.2.1 dX7_has_33 (by decide) ?_
            refine lv_istore (lv' := [(8, .int (5 : Int32)), (7, .int (3 : Int32)), (5, .long (6092405 : Int64)), (0, .ref qm), (1, .int (7 : Int32)), (2, .long (609240504 : Int64)), (4, .int (5 : Int32))]) E.1.1 E.1.2.1 dX7_has_34 hl (by decide) rfl (fun ls hl => ?_)
            refine lv_aload_n E.1.1 E.1.2.1 dX7_has_36 rfl (lv_at hl 3 rfl) ?_
            refine gf_X7_53 E Y 0 rfl rfl dX7_has_37 ?_
            refine lv_iload_n E.1.1 E.1.2.1 dX7_has_40 rfl (lv_at hl 4 rfl) ?_
            refine lv_iload E.1.1 E.1.2.1 dX7_has_41 (lv_at hl 1 rfl) ?_
            refine lv_iadd E.1.1 E.1.2.1 dX7_has_43 ?_
            refine lv_cst (v := 10) (by decide) ?_
            refine r_ial E Y 7 rfl (10) (by decide) (by unfold vp_in; decide) dX7_has_44 ?_
            refine lv_iload E.1.1 E.1.2.1 dX7_has_45 (lv_at hl 0 rfl) ?_
            refine lv_bipush (v := 27) E.1.1 E.1.2.1 dX7_has_47 (by decide) ?_
            refine lv_icmp_ne (tgt := 57) E.1.1 E.1.2.1 dX7_has_49 (by decide) (fun c_49 => ?_) (fun c_49 => ?_)
            · skip
              refine lv_bipush (v := 96) E.1.1 E.1.2.1 dX7_has_57 (by decide) ?_
              refine lv_iload E.1.1 E.1.2.1 dX7_has_59 (lv_at hl 0 rfl) ?_
              refine lv_iadd E.1.1 E.1.2.1 dX7_has_61 ?_
              refine lv_cst (v := 101) (by decide) ?_
              refine lv_icmp_eq (tgt := 67) E.1.1 E.1.2.1 dX7_has_62 (by decide) (fun c_62_r1 => ?_) (fun c_62_r1 => ?_)
              · skip
                refine lv_lload E.1.1 E.1.2.1 dX7_has_67 (lv_at hl 2 rfl) ?_
                refine lv_ldc2 (v := 100) E.1.1 E.1.2.1 E.1.2.2.2.1 (E.1.2.2.2.2 _ mj_X7_76) dX7_has_69 ?_
                refine lv_ldiv E.1.1 E.1.2.1 dX7_has_72 (by decide) ?_
                refine lv_cstl (v := 60924) (by decide) ?_
                refine lv_lstore (lv' := [(5, .long (60924 : Int64)), (8, .int (5 : Int32)), (7, .int (3 : Int32)), (0, .ref qm), (1, .int (7 : Int32)), (2, .long (609240504 : Int64)), (4, .int (5 : Int32))]) E.1.1 E.1.2.1 dX7_has_73 hl (by decide) rfl (fun ls hl => ?_)
                refine lv_iinc (v := (2 : Int32)) (lv' := [(7, .int (2 : Int32)), (5, .long (60924 : Int64)), (8, .int (5 : Int32)), (0, .ref qm), (1, .int (7 : Int32)), (2, .long (609240504 : Int64)), (4, .int (5 : Int32))]) E.1.1 E.1.2.1 dX7_has_75 hl (k := 2) rfl (by decide) (by decide) rfl (fun ls hl => ?_)
                refine lv_goto (tgt := 22) E.1.1 E.1.2.1 dX7_has_78 (by decide) ?_
                refine lv_iload E.1.1 E.1.2.1 dX7_has_22 (lv_at hl 0 rfl) ?_
                refine lv_if_lt (tgt := 81) E.1.1 E.1.2.1 dX7_has_24 (by decide) (fun c_24 => ?_) (fun c_24 => ?_)
                · exact absurd c_24 (by decide)
                · skip
                  refine lv_lload E.1.1 E.1.2.1 dX7_has_27 (lv_at hl 1 rfl) ?_
                  refine lv_ldc2 (v := 100) E.1.1 E.1.2.1 E.1.2.2.2.1 (E.1.2.2.2.2 _ mj_X7_76) dX7_has_29 ?_
                  refine lv_lrem E.1.1 E.1.2.1 dX7_has_32 (by decide) ?_
                  refine lv_cstl (v := 24) (by decide) ?_
                  refine lv_l2i (v := 24) E.1.1 E.1.2.1 dX7_has_33 (by decide) ?_
                  refine lv_istore (lv' := [(8, .int (24 : Int32)), (7, .int (2 : Int32)), (5, .long (60924 : Int64)), (0, .ref qm), (1, .int (7 : Int32)), (2, .long (609240504 : Int64)), (4, .int (5 : Int32))]) E.1.1 E.1.2.1 dX7_has_34 hl (by decide) rfl (fun ls hl => ?_)
                  refine lv_aload_n E.1.1 E.1.2.1 dX7_has_36 rfl (lv_at hl 3 rfl) ?_
                  refine gf_X7_53 E Y 0 rfl rfl dX7_has_37 ?_
                  refine lv_iload_n E.1.1 E.1.2.1 dX7_has_40 rfl (lv_at hl 4 rfl) ?_
                  refine lv_iload E.1.1 E.1.2.1 dX7_has_41 (lv_at hl 1 rfl) ?_
                  refine lv_iadd E.1.1 E.1.2.1 dX7_has_43 ?_
                  refine lv_cst (v := 9) (by decide) ?_
                  refine r_ial E Y 7 rfl (9) (by decide) (by unfold vp_in; decide) dX7_has_44 ?_
                  refine lv_iload E.1.1 E.1.2.1 dX7_has_45 (lv_at hl 0 rfl) ?_
                  refine lv_bipush (v := 27) E.1.1 E.1.2.1 dX7_has_47 (by decide) ?_
                  refine lv_icmp_ne (tgt := 57) E.1.1 E.1.2.1 dX7_has_49 (by decide) (fun c_49 => ?_) (fun c_49 => ?_)
                  · skip
                    refine lv_bipush (v := 96) E.1.1 E.1.2.1 dX7_has_57 (by decide) ?_
                    refine lv_iload E.1.1 E.1.2.1 dX7_has_59 (lv_at hl 0 rfl) ?_
                    refine lv_iadd E.1.1 E.1.2.1 dX7_has_61 ?_
                    refine lv_cst (v := 120) (by decide) ?_
                    refine lv_icmp_eq (tgt := 67) E.1.1 E.1.2.1 dX7_has_62 (by decide) (fun c_62_r2 => ?_) (fun c_62_r2 => ?_)
                    · skip
                      refine lv_lload E.1.1 E.1.2.1 dX7_has_67 (lv_at hl 2 rfl) ?_
                      refine lv_ldc2 (v := 100) E.1.1 E.1.2.1 E.1.2.2.2.1 (E.1.2.2.2.2 _ mj_X7_76) dX7_has_69 ?_
                      refine lv_ldiv E.1.1 E.1.2.1 dX7_has_72 (by decide) ?_
                      refine lv_cstl (v := 609) (by decide) ?_
                      refine lv_lstore (lv' := [(5, .long (609 : Int64)), (8, .int (24 : Int32)), (7, .int (2 : Int32)), (0, .ref qm), (1, .int (7 : Int32)), (2, .long (609240504 : Int64)), (4, .int (5 : Int32))]) E.1.1 E.1.2.1 dX7_has_73 hl (by decide) rfl (fun ls hl => ?_)
                      refine lv_iinc (v := (1 : Int32)) (lv' := [(7, .int (1 : Int32)), (5, .long (609 : Int64)), (8, .int (24 : Int32)), (0, .ref qm), (1, .int (7 : Int32)), (2, .long (609240504 : Int64)), (4, .int (5 : Int32))]) E.1.1 E.1.2.1 dX7_has_75 hl (k := 2) rfl (by decide) (by decide) rfl (fun ls hl => ?_)
                      refine lv_goto (tgt := 22) E.1.1 E.1.2.1 dX7_has_78 (by decide) ?_
                      refine lv_iload E.1.1 E.1.2.1 dX7_has_22 (lv_at hl 0 rfl) ?_
                      refine lv_if_lt (tgt := 81) E.1.1 E.1.2.1 dX7_has_24 (by decide) (fun c_24 => ?_) (fun c_24 => ?_)
                      · exact absurd c_24 (by decide)
                      · skip
                        refine lv_lload E.1.1 E.1.2.1 dX7_has_27 (lv_at hl 1 rfl) ?_
                        refine lv_ldc2 (v := 100) E.1.1 E.1.2.1 E.1.2.2.2.1 (E.1.2.2.2.2 _ mj_X7_76) dX7_has_29 ?_
                        refine lv_lrem E.1.1 E.1.2.1 dX7_has_32 (by decide) ?_
                        refine lv_cstl (v := 9) (by decide) ?_
                        refine lv_l2i (v := 9) E.1.1 E.1.2.1 dX7_has_33 (by decide) ?_
                        refine lv_istore (lv' := [(8, .int (9 : Int32)), (7, .int (1 : Int32)), (5, .long (609 : Int64)), (0, .ref qm), (1, .int (7 : Int32)), (2, .long (609240504 : Int64)), (4, .int (5 : Int32))]) E.1.1 E.1.2.1 dX7_has_34 hl (by decide) rfl (fun ls hl => ?_)
                        refine lv_aload_n E.1.1 E.1.2.1 dX7_has_36 rfl (lv_at hl 3 rfl) ?_
                        refine gf_X7_53 E Y 0 rfl rfl dX7_has_37 ?_
                        refine lv_iload_n E.1.1 E.1.2.1 dX7_has_40 rfl (lv_at hl 4 rfl) ?_
                        refine lv_iload E.1.1 E.1.2.1 dX7_has_41 (lv_at hl 1 rfl) ?_
                        refine lv_iadd E.1.1 E.1.2.1 dX7_has_43 ?_
                        refine lv_cst (v := 8) (by decide) ?_
                        refine r_ial E Y 7 rfl (8) (by decide) (by unfold vp_in; decide) dX7_has_44 ?_
                        refine lv_iload E.1.1 E.1.2.1 dX7_has_45 (lv_at hl 0 rfl) ?_
                        refine lv_bipush (v := 27) E.1.1 E.1.2.1 dX7_has_47 (by decide) ?_
                        refine lv_icmp_ne (tgt := 57) E.1.1 E.1.2.1 dX7_has_49 (by decide) (fun c_49 => ?_) (fun c_49 => ?_)
                        · skip
                          refine lv_bipush (v := 96) E.1.1 E.1.2.1 dX7_has_57 (by decide) ?_
                          refine lv_iload E.1.1 E.1.2.1 dX7_has_59 (lv_at hl 0 rfl) ?_
                          refine lv_iadd E.1.1 E.1.2.1 dX7_has_61 ?_
                          refine lv_cst (v := 105) (by decide) ?_
                          refine lv_icmp_eq (tgt := 67) E.1.1 E.1.2.1 dX7_has_62 (by decide) (fun c_62_r3 => ?_) (fun c_62_r3 => ?_)
                          · skip
                            refine lv_lload E.1.1 E.1.2.1 dX7_has_67 (lv_at hl 2 rfl) ?_
                            refine lv_ldc2 (v := 100) E.1.1 E.1.2.1 E.1.2.2.2.1 (E.1.2.2.2.2 _ mj_X7_76) dX7_has_69 ?_
                            refine lv_ldiv E.1.1 E.1.2.1 dX7_has_72 (by decide) ?_
                            refine lv_cstl (v := 6) (by decide) ?_
                            refine lv_lstore (lv' := [(5, .long (6 : Int64)), (8, .int (9 : Int32)), (7, .int (1 : Int32)), (0, .ref qm), (1, .int (7 : Int32)), (2, .long (609240504 : Int64)), (4, .int (5 : Int32))]) E.1.1 E.1.2.1 dX7_has_73 hl (by decide) rfl (fun ls hl => ?_)
                            refine lv_iinc (v := (0 : Int32)) (lv' := [(7, .int (0 : Int32)), (5, .long (6 : Int64)), (8, .int (9 : Int32)), (0, .ref qm), (1, .int (7 : Int32)), (2, .long (609240504 : Int64)), (4, .int (5 : Int32))]) E.1.1 E.1.2.1 dX7_has_75 hl (k := 2) rfl (by decide) (by decide) rfl (fun ls hl => ?_)
                            refine lv_goto (tgt := 22) E.1.1 E.1.2.1 dX7_has_78 (by decide) ?_
                            refine lv_iload E.1.1 E.1.2.1 dX7_has_22 (lv_at hl 0 rfl) ?_
                            refine lv_if_lt (tgt := 81) E.1.1 E.1.2.1 dX7_has_24 (by decide) (fun c_24 => ?_) (fun c_24 => ?_)
                            · exact absurd c_24 (by decide)
                            · skip
                              refine lv_lload E.1.1 E.1.2.1 dX7_has_27 (lv_at hl 1 rfl) ?_
                              refine lv_ldc2 (v := 100) E.1.1 E.1.2.1 E.1.2.2.2.1 (E.1.2.2.2.2 _ mj_X7_76) dX7_has_29 ?_
                              refine lv_lrem E.1.1 E.1.2.1 dX7_has_32 (by decide) ?_
                              refine lv_cstl (v := 6) (by decide) ?_
                              refine lv_l2i (v := 6) E.1.1 E.1.2.1 dX7_has_33 (by decide) ?_
                              refine lv_istore (lv' := [(8, .int (6 : Int32)), (7, .int (0 : Int32)), (5, .long (6 : Int64)), (0, .ref qm), (1, .int (7 : Int32)), (2, .long (609240504 : Int64)), (4, .int (5 : Int32))]) E.1.1 E.1.2.1 dX7_has_34 hl (by decide) rfl (fun ls hl => ?_)
                              refine lv_aload_n E.1.1 E.1.2.1 dX7_has_36 rfl (lv_at hl 3 rfl) ?_
                              refine gf_X7_53 E Y 0 rfl rfl dX7_has_37 ?_
                              refine lv_iload_n E.1.1 E.1.2.1 dX7_has_40 rfl (lv_at hl 4 rfl) ?_
                              refine lv_iload E.1.1 E.1.2.1 dX7_has_41 (lv_at hl 1 rfl) ?_
                              refine lv_iadd E.1.1 E.1.2.1 dX7_has_43 ?_
                              refine lv_cst (v := 7) (by decide) ?_
                              refine r_ial E Y 7 rfl (7) (by decide) (by unfold vp_in; decide) dX7_has_44 ?_
                              refine lv_iload E.1.1 E.1.2.1 dX7_has_45 (lv_at hl 0 rfl) ?_
                              refine lv_bipush (v := 27) E.1.1 E.1.2.1 dX7_has_47 (by decide) ?_
                              refine lv_icmp_ne (tgt := 57) E.1.1 E.1.2.1 dX7_has_49 (by decide) (fun c_49 => ?_) (fun c_49 => ?_)
                              · skip
                                refine lv_bipush (v := 96) E.1.1 E.1.2.1 dX7_has_57 (by decide) ?_
                                refine lv_iload E.1.1 E.1.2.1 dX7_has_59 (lv_at hl 0 rfl) ?_
                                refine lv_iadd E.1.1 E.1.2.1 dX7_has_61 ?_
                                refine lv_cst (v := 102) (by decide) ?_
                                refine lv_icmp_eq (tgt := 67) E.1.1 E.1.2.1 dX7_has_62 (by decide) (fun c_62_r4 => ?_) (fun c_62_r4 => ?_)
                                · skip
                                  refine lv_lload E.1.1 E.1.2.1 dX7_has_67 (lv_at hl 2 rfl) ?_
                                  refine lv_ldc2 (v := 100) E.1.1 E.1.2.1 E.1.2.2.2.1 (E.1.2.2.2.2 _ mj_X7_76) dX7_has_69 ?_
                                  refine lv_ldiv E.1.1 E.1.2.1 dX7_has_72 (by decide) ?_
                                  refine lv_cstl (v := 0) (by decide) ?_
                                  refine lv_lstore (lv' := [(5, .long (0 : Int64)), (8, .int (6 : Int32)), (7, .int (0 : Int32)), (0, .ref qm), (1, .int (7 : Int32)), (2, .long (609240504 : Int64)), (4, .int (5 : Int32))]) E.1.1 E.1.2.1 dX7_has_73 hl (by decide) rfl (fun ls hl => ?_)
                                  refine lv_iinc (v := (-1 : Int32)) (lv' := [(7, .int (-1 : Int32)), (5, .long (0 : Int64)), (8, .int (6 : Int32)), (0, .ref qm), (1, .int (7 : Int32)), (2, .long (609240504 : Int64)), (4, .int (5 : Int32))]) E.1.1 E.1.2.1 dX7_has_75 hl (k := 2) rfl (by decide) (by decide) rfl (fun ls hl => ?_)
                                  refine lv_goto (tgt := 22) E.1.1 E.1.2.1 dX7_has_78 (by decide) ?_
                                  refine lv_iload E.1.1 E.1.2.1 dX7_has_22 (lv_at hl 0 rfl) ?_
                                  refine lv_if_lt (tgt := 81) E.1.1 E.1.2.1 dX7_has_24 (by decide) (fun c_24 => ?_) (fun c_24 => ?_)
                                  · skip
                                    refine lv_iconst (v := 1) E.1.1 E.1.2.1 dX7_has_81 (by decide) ?_
                                    have e9 : (f_X7_has_fixed y) = (1 : Int32) := (if_pos c_8).trans ((if_pos c_62).trans ((if_pos c_62_r1).trans ((if_pos c_62_r2).trans ((if_pos c_62_r3).trans ((if_pos c_62_r4).trans (rfl))))))
                                    exact r_zret E Y hr hk (1 : Int32) rfl () (e9.symm) rfl ⟨Nat.le_of_ble_eq_true rfl, Nat.le_of_ble_eq_true rfl⟩ dX7_has_82
                                  · exact absurd (by decide) c_24
                                · skip
                                  refine lv_iconst (v := 0) E.1.1 E.1.2.1 dX7_has_65 (by decide) ?_
                                  have e9 : (f_X7_has_fixed y) = (0 : Int32) := (if_pos c_8).trans ((if_pos c_62).trans ((if_pos c_62_r1).trans ((if_pos c_62_r2).trans ((if_pos c_62_r3).trans ((if_neg c_62_r4).trans (rfl))))))
                                  exact r_zret E Y hr hk (0 : Int32) rfl () (e9.symm) rfl ⟨Nat.le_of_ble_eq_true rfl, Nat.le_of_ble_eq_true rfl⟩ dX7_has_66
                              · exact absurd c_49 (by decide)
                          · skip
                            refine lv_iconst (v := 0) E.1.1 E.1.2.1 dX7_has_65 (by decide) ?_
                            have e9 : (f_X7_has_fixed y) = (0 : Int32) := (if_pos c_8).trans ((if_pos c_62).trans ((if_pos c_62_r1).trans ((if_pos c_62_r2).trans ((if_neg c_62_r3).trans (rfl)))))
                            exact r_zret E Y hr hk (0 : Int32) rfl () (e9.symm) rfl ⟨Nat.le_of_ble_eq_true rfl, Nat.le_of_ble_eq_true rfl⟩ dX7_has_66
                        · exact absurd c_49 (by decide)
                    · skip
                      refine lv_iconst (v := 0) E.1.1 E.1.2.1 dX7_has_65 (by decide) ?_
                      have e9 : (f_X7_has_fixed y) = (0 : Int32) := (if_pos c_8).trans ((if_pos c_62).trans ((if_pos c_62_r1).trans ((if_neg c_62_r2).trans (rfl))))
                      exact r_zret E Y hr hk (0 : Int32) rfl () (e9.symm) rfl ⟨Nat.le_of_ble_eq_true rfl, Nat.le_of_ble_eq_true rfl⟩ dX7_has_66
                  · exact absurd c_49 (by decide)
              · skip
                refine lv_iconst (v := 0) E.1.1 E.1.2.1 dX7_has_65 (by decide) ?_
                have e9 : (f_X7_has_fixed y) = (0 : Int32) := (if_pos c_8).trans ((if_pos c_62).trans ((if_neg c_62_r1).trans (rfl)))
                exact r_zret E Y hr hk (0 : Int32) rfl () (e9.symm) rfl ⟨Nat.le_of_ble_eq_true rfl, Nat.le_of_ble_eq_true rfl⟩ dX7_has_66
            · exact absurd c_49 (by decide)
        · skip
          refine lv_iconst (v := 0) E.1.1 E.1.2.1 dX7_has_65 (by decide) ?_
          have e9 : (f_X7_has_fixed y) = (0 : Int32) := (if_pos c_8).trans ((if_neg c_62).trans (rfl))
          exact r_zret E Y hr hk (0 : Int32) rfl () (e9.symm) rfl ⟨Nat.le_of_ble_eq_true rfl, Nat.le_of_ble_eq_true rfl⟩ dX7_has_66
      · exact absurd c_49 (by decide)
  · skip
    refine lv_iconst (v := 0) E.1.1 E.1.2.1 dX7_has_11 (by decide) ?_
    have e9 : (f_X7_has_fixed y) = (0 : Int32) := (if_neg c_8).trans (rfl)
    exact r_zret E Y hr hk (0 : Int32) rfl () (e9.symm) rfl ⟨Nat.le_of_ble_eq_true rfl, Nat.le_of_ble_eq_true rfl⟩ dX7_has_12

def f_X7_has_rate (y : Ky) : Int32 := if (11 : Int32) ≤ (y.1 1) then (if (y.2 (10)) = (101 : Int32) then (if (y.2 (9)) = (116 : Int32) then (if (y.2 (8)) = (97 : Int32) then (if (y.2 (7)) = (114 : Int32) then (1 : Int32) else (0 : Int32)) else (0 : Int32)) else (0 : Int32)) else (0 : Int32)) else (0 : Int32)
set_option maxRecDepth 100000 in
set_option maxHeartbeats 4000000 in
theorem c_X7_has_rate {l : Launch} {D : va_G} {cI cB : ClassId} (qm mb ma me mr mn ms mk : Nat) (k : Cf) (v : Fn) (a : Fn) (y : Ky) : CI l X0 D cI cB yX7_has cX7_has 9 (some .boolean) 0 0 0 0 [.ref qm, .int (7 : Int32), .long (18012005 : Int64), .int (4 : Int32)] (wM cI qm mb ma me mr mn ms mk k v a y) (fun (r : Int32) (_ : Unit) => r = (f_X7_has_rate y)) (fun _ => (wM cI qm mb ma me mr mn ms mk k v a y)) := by
  refine CI.of (by decide) (Nat.le_of_ble_eq_true rfl) ?_
  intro p e s m below meth c A ls E hr hk hin hA hAA hX Y hl
  have E : EE p c cX7_has 9 s _ m RX7 D cI cB := E
  have hl : lv_has ls 9 [(0, .ref qm), (1, .int (7 : Int32)), (2, .long (18012005 : Int64)), (4, .int (4 : Int32))] := hl
  refine lv_iload_n E.1.1 E.1.2.1 dX7_has_0 rfl (lv_at hl 1 rfl) ?_
  refine lv_iload E.1.1 E.1.2.1 dX7_has_1 (lv_at hl 3 rfl) ?_
  refine lv_iadd E.1.1 E.1.2.1 dX7_has_3 ?_
  refine lv_cst (v := 11) (by decide) ?_
  refine lv_aload_n E.1.1 E.1.2.1 dX7_has_4 rfl (lv_at hl 0 rfl) ?_
  refine gf_X7_73 E Y 0 rfl rfl dX7_has_5 ?_
  refine lv_icmp_le (tgt := 13) E.1.1 E.1.2.1 dX7_has_8 (by decide) (fun c_8 => ?_) (fun c_8 => ?_)
  · skip
    refine lv_lload_n E.1.1 E.1.2.1 dX7_has_13 rfl (lv_at hl 2 rfl) ?_
    refine lv_lstore (lv' := [(5, .long (18012005 : Int64)), (0, .ref qm), (1, .int (7 : Int32)), (2, .long (18012005 : Int64)), (4, .int (4 : Int32))]) E.1.1 E.1.2.1 dX7_has_14 hl (by decide) rfl (fun ls hl => ?_)
    refine lv_iload E.1.1 E.1.2.1 dX7_has_16 (lv_at hl 4 rfl) ?_
    refine lv_iconst (v := 1) E.1.1 E.1.2.1 dX7_has_18 (by decide) ?_
    refine lv_isub E.1.1 E.1.2.1 dX7_has_19 ?_
    refine lv_cst (v := 3) (by decide) ?_
    refine lv_istore (lv' := [(7, .int (3 : Int32)), (5, .long (18012005 : Int64)), (0, .ref qm), (1, .int (7 : Int32)), (2, .long (18012005 : Int64)), (4, .int (4 : Int32))]) E.1.1 E.1.2.1 dX7_has_20 hl (by decide) rfl (fun ls hl => ?_)
    refine lv_iload E.1.1 E.1.2.1 dX7_has_22 (lv_at hl 0 rfl) ?_
    refine lv_if_lt (tgt := 81) E.1.1 E.1.2.1 dX7_has_24 (by decide) (fun c_24 => ?_) (fun c_24 => ?_)
    · exact absurd c_24 (by decide)
    · skip
      refine lv_lload E.1.1 E.1.2.1 dX7_has_27 (lv_at hl 1 rfl) ?_
      refine lv_ldc2 (v := 100) E.1.1 E.1.2.1 E.1.2.2.2.1 (E.1.2.2.2.2 _ mj_X7_76) dX7_has_29 ?_
      refine lv_lrem E.1.1 E.1.2.1 dX7_has_32 (by decide) ?_
      refine lv_cstl (v := 5) (by decide) ?_
      refine lv_l2i (v := 5) E.1.1 E.1.2.1 dX7_has_33 (by decide) ?_
      refine lv_istore (lv' := [(8, .int (5 : Int32)), (7, .int (3 : Int32)), (5, .long (18012005 : Int64)), (0, .ref qm), (1, .int (7 : Int32)), (2, .long (18012005 : Int64)), (4, .int (4 : Int32))]) E.1.1 E.1.2.1 dX7_has_34 hl (by decide) rfl (fun ls hl => ?_)
      refine lv_aload_n E.1.1 E.1.2.1 dX7_has_36 rfl (lv_at hl 3 rfl) ?_
      refine gf_X7_53 E Y 0 rfl rfl dX7_has_37 ?_
      refine lv_iload_n E.1.1 E.1.2.1 dX7_has_40 rfl (lv_at hl 4 rfl) ?_
      refine lv_iload E.1.1 E.1.2.1 dX7_has_41 (lv_at hl 1 rfl) ?_
      refine lv_iadd E.1.1 E.1.2.1 dX7_has_43 ?_
      refine lv_cst (v := 10) (by decide) ?_
      refine r_ial E Y 7 rfl (10) (by decide) (by unfold vp_in; decide) dX7_has_44 ?_
      refine lv_iload E.1.1 E.1.2.1 dX7_has_45 (lv_at hl 0 rfl) ?_
      refine lv_bipush (v := 27) E.1.1 E.1.2.1 dX7_has_47 (by decide) ?_
      refine lv_icmp_ne (tgt := 57) E.1.1 E.1.2.1 dX7_has_49 (by decide) (fun c_49 => ?_) (fun c_49 => ?_)
      · skip
        refine lv_bipush (v := 96) E.1.1 E.1.2.1 dX7_has_57 (by decide) ?_
        refine lv_iload E.1.1 E.1.2.1 dX7_has_59 (lv_at hl 0 rfl) ?_
        refine lv_iadd E.1.1 E.1.2.1 dX7_has_61 ?_
        refine lv_cst (v := 101) (by decide) ?_
        refine lv_icmp_eq (tgt := 67) E.1.1 E.1.2.1 dX7_has_62 (by decide) (fun c_62 => ?_) (fun c_62 => ?_)
        · skip
          refine lv_lload E.1.1 E.1.2.1 dX7_has_67 (lv_at hl 2 rfl) ?_
          refine lv_ldc2 (v := 100) E.1.1 E.1.2.1 E.1.2.2.2.1 (E.1.2.2.2.2 _ mj_X7_76) dX7_has_69 ?_
          refine lv_ldiv E.1.1 E.1.2.1 dX7_has_72 (by decide) ?_
          refine lv_cstl (v := 180120) (by decide) ?_
          refine lv_lstore (lv' := [(5, .long (180120 : Int64)), (8, .int (5 : Int32)), (7, .int (3 : Int32)), (0, .ref qm), (1, .int (7 : Int32)), (2, .long (18012005 : Int64)), (4, .int (4 : Int32))]) E.1.1 E.1.2.1 dX7_has_73 hl (by decide) rfl (fun ls hl => ?_)
          refine lv_iinc (v := (2 : Int32)) (lv' := [(7, .int (2 : Int32)), (5, .long (180120 : Int64)), (8, .int (5 : Int32)), (0, .ref qm), (1, .int (7 : Int32)), (2, .long (18012005 : Int64)), (4, .int (4 : Int32))]) E.1.1 E.1.2.1 dX7_has_75 hl (k := 2) rfl (by decide) (by decide) rfl (fun ls hl => ?_)
          refine lv_goto (tgt := 22) E.1.1 E.1.2.1 dX7_has_78 (by decide) ?_
          refine lv_iload E.1.1 E.1.2.1 dX7_has_22 (lv_at hl 0 rfl) ?_
          refine lv_if_lt (tgt := 81) E.1.1 E.1.2.1 dX7_has_24 (by decide) (fun c_24 => ?_) (fun c_24 => ?_)
          · exact absurd c_24 (by decide)
          · skip
            refine lv_lload E.1.1 E.1.2.1 dX7_has_27 (lv_at hl 1 rfl) ?_
            refine lv_ldc2 (v := 100) E.1.1 E.1.2.1 E.1.2.2.2.1 (E.1.2.2.2.2 _ mj_X7_76) dX7_has_29 ?_
            refine lv_lrem E.1.1 E.1.2.1 dX7_has_32 (by decide) ?_
            refine lv_cstl (v := 20) (by decide) ?_
            refine lv_l2i (v := 20) E.1.1 E.1.2.1 dX7_has_33 (by decide) ?_
            refine lv_istore (lv' := [(8, .int (20 : Int32)), (7, .int (2 : Int32)), (5, .long (180120 : Int64)), (0, .ref qm), (1, .int (7 : Int32)), (2, .long (18012005 : Int64)), (4, .int (4 : Int32))]) E.1.1 E.1.2.1 dX7_has_34 hl (by decide) rfl (fun ls hl => ?_)
            refine lv_aload_n E.1.1 E.1.2.1 dX7_has_36 rfl (lv_at hl 3 rfl) ?_
            refine gf_X7_53 E Y 0 rfl rfl dX7_has_37 ?_
            refine lv_iload_n E.1.1 E.1.2.1 dX7_has_40 rfl (lv_at hl 4 rfl) ?_
            refine lv_iload E.1.1 E.1.2.1 dX7_has_41 (lv_at hl 1 rfl) ?_
            refine lv_iadd E.1.1 E.1.2.1 dX7_has_43 ?_
            refine lv_cst (v := 9) (by decide) ?_
            refine r_ial E Y 7 rfl (9) (by decide) (by unfold vp_in; decide) dX7_has_44 ?_
            refine lv_iload E.1.1 E.1.2.1 dX7_has_45 (lv_at hl 0 rfl) ?_
            refine lv_bipush (v := 27) E.1.1 E.1.2.1 dX7_has_47 (by decide) ?_
            refine lv_icmp_ne (tgt := 57) E.1.1 E.1.2.1 dX7_has_49 (by decide) (fun c_49 => ?_) (fun c_49 => ?_)
            · skip
              refine lv_bipush (v := 96) E.1.1 E.1.2.1 dX7_has_57 (by decide) ?_
              refine lv_iload E.1.1 E.1.2.1 dX7_has_59 (lv_at hl 0 rfl) ?_
              refine lv_iadd E.1.1 E.1.2.1 dX7_has_61 ?_
              refine lv_cst (v := 116) (by decide) ?_
              refine lv_icmp_eq (tgt := 67) E.1.1 E.1.2.1 dX7_has_62 (by decide) (fun c_62_r1 => ?_) (fun c_62_r1 => ?_)
              · skip
                refine lv_lload E.1.1 E.1.2.1 dX7_has_67 (lv_at hl 2 rfl) ?_
                refine lv_ldc2 (v := 100) E.1.1 E.1.2.1 E.1.2.2.2.1 (E.1.2.2.2.2 _ mj_X7_76) dX7_has_69 ?_
                refine lv_ldiv E.1.1 E.1.2.1 dX7_has_72 (by decide) ?_
                refine lv_cstl (v := 1801) (by decide) ?_
                refine lv_lstore (lv' := [(5, .long (1801 : Int64)), (8, .int (20 : Int32)), (7, .int (2 : Int32)), (0, .ref qm), (1, .int (7 : Int32)), (2, .long (18012005 : Int64)), (4, .int (4 : Int32))]) E.1.1 E.1.2.1 dX7_has_73 hl (by decide) rfl (fun ls hl => ?_)
                refine lv_iinc (v := (1 : Int32)) (lv' := [(7, .int (1 : Int32)), (5, .long (1801 : Int64)), (8, .int (20 : Int32)), (0, .ref qm), (1, .int (7 : Int32)), (2, .long (18012005 : Int64)), (4, .int (4 : Int32))]) E.1.1 E.1.2.1 dX7_has_75 hl (k := 2) rfl (by decide) (by decide) rfl (fun ls hl => ?_)
                refine lv_goto (tgt := 22) E.1.1 E.1.2.1 dX7_has_78 (by decide) ?_
                refine lv_iload E.1.1 E.1.2.1 dX7_has_22 (lv_at hl 0 rfl) ?_
                refine lv_if_lt (tgt := 81) E.1.1 E.1.2.1 dX7_has_24 (by decide) (fun c_24 => ?_) (fun c_24 => ?_)
                · exact absurd c_24 (by decide)
                · skip
                  refine lv_lload E.1.1 E.1.2.1 dX7_has_27 (lv_at hl 1 rfl) ?_
                  refine lv_ldc2 (v := 100) E.1.1 E.1.2.1 E.1.2.2.2.1 (E.1.2.2.2.2 _ mj_X7_76) dX7_has_29 ?_
                  refine lv_lrem E.1.1 E.1.2.1 dX7_has_32 (by decide) ?_
                  refine lv_cstl (v := 1) (by decide) ?_
                  refine lv_l2i (v := 1) E.1.1 E.1.2.1 dX7_has_33 (by decide) ?_
                  refine lv_istore (lv' := [(8, .int (1 : Int32)), (7, .int (1 : Int32)), (5, .long (1801 : Int64)), (0, .ref qm), (1, .int (7 : Int32)), (2, .long (18012005 : Int64)), (4, .int (4 : Int32))]) E.1.1 E.1.2.1 dX7_has_34 hl (by decide) rfl (fun ls hl => ?_)
                  refine lv_aload_n E.1.1 E.1.2.1 dX7_has_36 rfl (lv_at hl 3 rfl) ?_
                  refine gf_X7_53 E Y 0 rfl rfl dX7_has_37 ?_
                  refine lv_iload_n E.1.1 E.1.2.1 dX7_has_40 rfl (lv_at hl 4 rfl) ?_
                  refine lv_iload E.1.1 E.1.2.1 dX7_has_41 (lv_at hl 1 rfl) ?_
                  refine lv_iadd E.1.1 E.1.2.1 dX7_has_43 ?_
                  refine lv_cst (v := 8) (by decide) ?_
                  refine r_ial E Y 7 rfl (8) (by decide) (by unfold vp_in; decide) dX7_has_44 ?_
                  refine lv_iload E.1.1 E.1.2.1 dX7_has_45 (lv_at hl 0 rfl) ?_
                  refine lv_bipush (v := 27) E.1.1 E.1.2.1 dX7_has_47 (by decide) ?_
                  refine lv_icmp_ne (tgt := 57) E.1.1 E.1.2.1 dX7_has_49 (by decide) (fun c_49 => ?_) (fun c_49 => ?_)
                  · skip
                    refine lv_bipush (v := 96) E.1.1 E.1.2.1 dX7_has_57 (by decide) ?_
                    refine lv_iload E.1.1 E.1.2.1 dX7_has_59 (lv_at hl 0 rfl) ?_
                    refine lv_iadd E.1.1 E.1.2.1 dX7_has_61 ?_
                    refine lv_cst (v := 97) (by decide) ?_
                    refine lv_icmp_eq (tgt := 67) E.1.1 E.1.2.1 dX7_has_62 (by decide) (fun c_62_r2 => ?_) (fun c_62_r2 => ?_)
                    · skip
                      refine lv_lload E.1.1 E.1.2.1 dX7_has_67 (lv_at hl 2 rfl) ?_
                      refine lv_ldc2 (v := 100) E.1.1 E.1.2.1 E.1.2.2.2.1 (E.1.2.2.2.2 _ mj_X7_76) dX7_has_69 ?_
                      refine lv_ldiv E.1.1 E.1.2.1 dX7_has_72 (by decide) ?_
                      refine lv_cstl (v := 18) (by decide) ?_
                      refine lv_lstore (lv' := [(5, .long (18 : Int64)), (8, .int (1 : Int32)), (7, .int (1 : Int32)), (0, .ref qm), (1, .int (7 : Int32)), (2, .long (18012005 : Int64)), (4, .int (4 : Int32))]) E.1.1 E.1.2.1 dX7_has_73 hl (by decide) rfl (fun ls hl => ?_)
                      refine lv_iinc (v := (0 : Int32)) (lv' := [(7, .int (0 : Int32)), (5, .long (18 : Int64)), (8, .int (1 : Int32)), (0, .ref qm), (1, .int (7 : Int32)), (2, .long (18012005 : Int64)), (4, .int (4 : Int32))]) E.1.1 E.1.2.1 dX7_has_75 hl (k := 2) rfl (by decide) (by decide) rfl (fun ls hl => ?_)
                      refine lv_goto (tgt := 22) E.1.1 E.1.2.1 dX7_has_78 (by decide) ?_
                      refine lv_iload E.1.1 E.1.2.1 dX7_has_22 (lv_at hl 0 rfl) ?_
                      refine lv_if_lt (tgt := 81) E.1.1 E.1.2.1 dX7_has_24 (by decide) (fun c_24 => ?_) (fun c_24 => ?_)
                      · exact absurd c_24 (by decide)
                      · skip
                        refine lv_lload E.1.1 E.1.2.1 dX7_has_27 (lv_at hl 1 rfl) ?_
                        refine lv_ldc2 (v := 100) E.1.1 E.1.2.1 E.1.2.2.2.1 (E.1.2.2.2.2 _ mj_X7_76) dX7_has_29 ?_
                        refine lv_lrem E.1.1 E.1.2.1 dX7_has_32 (by decide) ?_
                        refine lv_cstl (v := 18) (by decide) ?_
                        refine lv_l2i (v := 18) E.1.1 E.1.2.1 dX7_has_33 (by decide) ?_
                        refine lv_istore (lv' := [(8, .int (18 : Int32)), (7, .int (0 : Int32)), (5, .long (18 : Int64)), (0, .ref qm), (1, .int (7 : Int32)), (2, .long (18012005 : Int64)), (4, .int (4 : Int32))]) E.1.1 E.1.2.1 dX7_has_34 hl (by decide) rfl (fun ls hl => ?_)
                        refine lv_aload_n E.1.1 E.1.2.1 dX7_has_36 rfl (lv_at hl 3 rfl) ?_
                        refine gf_X7_53 E Y 0 rfl rfl dX7_has_37 ?_
                        refine lv_iload_n E.1.1 E.1.2.1 dX7_has_40 rfl (lv_at hl 4 rfl) ?_
                        refine lv_iload E.1.1 E.1.2.1 dX7_has_41 (lv_at hl 1 rfl) ?_
                        refine lv_iadd E.1.1 E.1.2.1 dX7_has_43 ?_
                        refine lv_cst (v := 7) (by decide) ?_
                        refine r_ial E Y 7 rfl (7) (by decide) (by unfold vp_in; decide) dX7_has_44 ?_
                        refine lv_iload E.1.1 E.1.2.1 dX7_has_45 (lv_at hl 0 rfl) ?_
                        refine lv_bipush (v := 27) E.1.1 E.1.2.1 dX7_has_47 (by decide) ?_
                        refine lv_icmp_ne (tgt := 57) E.1.1 E.1.2.1 dX7_has_49 (by decide) (fun c_49 => ?_) (fun c_49 => ?_)
                        · skip
                          refine lv_bipush (v := 96) E.1.1 E.1.2.1 dX7_has_57 (by decide) ?_
                          refine lv_iload E.1.1 E.1.2.1 dX7_has_59 (lv_at hl 0 rfl) ?_
                          refine lv_iadd E.1.1 E.1.2.1 dX7_has_61 ?_
                          refine lv_cst (v := 114) (by decide) ?_
                          refine lv_icmp_eq (tgt := 67) E.1.1 E.1.2.1 dX7_has_62 (by decide) (fun c_62_r3 => ?_) (fun c_62_r3 => ?_)
                          · skip
                            refine lv_lload E.1.1 E.1.2.1 dX7_has_67 (lv_at hl 2 rfl) ?_
                            refine lv_ldc2 (v := 100) E.1.1 E.1.2.1 E.1.2.2.2.1 (E.1.2.2.2.2 _ mj_X7_76) dX7_has_69 ?_
                            refine lv_ldiv E.1.1 E.1.2.1 dX7_has_72 (by decide) ?_
                            refine lv_cstl (v := 0) (by decide) ?_
                            refine lv_lstore (lv' := [(5, .long (0 : Int64)), (8, .int (18 : Int32)), (7, .int (0 : Int32)), (0, .ref qm), (1, .int (7 : Int32)), (2, .long (18012005 : Int64)), (4, .int (4 : Int32))]) E.1.1 E.1.2.1 dX7_has_73 hl (by decide) rfl (fun ls hl => ?_)
                            refine lv_iinc (v := (-1 : Int32)) (lv' := [(7, .int (-1 : Int32)), (5, .long (0 : Int64)), (8, .int (18 : Int32)), (0, .ref qm), (1, .int (7 : Int32)), (2, .long (18012005 : Int64)), (4, .int (4 : Int32))]) E.1.1 E.1.2.1 dX7_has_75 hl (k := 2) rfl (by decide) (by decide) rfl (fun ls hl => ?_)
                            refine lv_goto (tgt := 22) E.1.1 E.1.2.1 dX7_has_78 (by decide) ?_
                            refine lv_iload E.1.1 E.1.2.1 dX7_has_22 (lv_at hl 0 rfl) ?_
                            refine lv_if_lt (tgt := 81) E.1.1 E.1.2.1 dX7_has_24 (by decide) (fun c_24 => ?_) (fun c_24 => ?_)
                            · skip
                              refine lv_iconst (v := 1) E.1.1 E.1.2.1 dX7_has_81 (by decide) ?_
                              have e9 : (f_X7_has_rate y) = (1 : Int32) := (if_pos c_8).trans ((if_pos c_62).trans ((if_pos c_62_r1).trans ((if_pos c_62_r2).trans ((if_pos c_62_r3).trans (rfl)))))
                              exact r_zret E Y hr hk (1 : Int32) rfl () (e9.symm) rfl ⟨Nat.le_of_ble_eq_true rfl, Nat.le_of_ble_eq_true rfl⟩ dX7_has_82
                            · exact absurd (by decide) c_24
                          · skip
                            refine lv_iconst (v := 0) E.1.1 E.1.2.1 dX7_has_65 (by decide) ?_
                            have e9 : (f_X7_has_rate y) = (0 : Int32) := (if_pos c_8).trans ((if_pos c_62).trans ((if_pos c_62_r1).trans ((if_pos c_62_r2).trans ((if_neg c_62_r3).trans (rfl)))))
                            exact r_zret E Y hr hk (0 : Int32) rfl () (e9.symm) rfl ⟨Nat.le_of_ble_eq_true rfl, Nat.le_of_ble_eq_true rfl⟩ dX7_has_66
                        · exact absurd c_49 (by decide)
                    · skip
                      refine lv_iconst (v := 0) E.1.1 E.1.2.1 dX7_has_65 (by decide) ?_
                      have e9 : (f_X7_has_rate y) = (0 : Int32) := (if_pos c_8).trans ((if_pos c_62).trans ((if_pos c_62_r1).trans ((if_neg c_62_r2).trans (rfl))))
                      exact r_zret E Y hr hk (0 : Int32) rfl () (e9.symm) rfl ⟨Nat.le_of_ble_eq_true rfl, Nat.le_of_ble_eq_true rfl⟩ dX7_has_66
                  · exact absurd c_49 (by decide)
              · skip
                refine lv_iconst (v := 0) E.1.1 E.1.2.1 dX7_has_65 (by decide) ?_
                have e9 : (f_X7_has_rate y) = (0 : Int32) := (if_pos c_8).trans ((if_pos c_62).trans ((if_neg c_62_r1).trans (rfl)))
                exact r_zret E Y hr hk (0 : Int32) rfl () (e9.symm) rfl ⟨Nat.le_of_ble_eq_true rfl, Nat.le_of_ble_eq_true rfl⟩ dX7_has_66
            · exact absurd c_49 (by decide)
        · skip
          refine lv_iconst (v := 0) E.1.1 E.1.2.1 dX7_has_65 (by decide) ?_
          have e9 : (f_X7_has_rate y) = (0 : Int32) := (if_pos c_8).trans ((if_neg c_62).trans (rfl))
          exact r_zret E Y hr hk (0 : Int32) rfl () (e9.symm) rfl ⟨Nat.le_of_ble_eq_true rfl, Nat.le_of_ble_eq_true rfl⟩ dX7_has_66
      · exact absurd c_49 (by decide)
  · skip
    refine lv_iconst (v := 0) E.1.1 E.1.2.1 dX7_has_11 (by decide) ?_
    have e9 : (f_X7_has_rate y) = (0 : Int32) := (if_neg c_8).trans (rfl)
    exact r_zret E Y hr hk (0 : Int32) rfl () (e9.symm) rfl ⟨Nat.le_of_ble_eq_true rfl, Nat.le_of_ble_eq_true rfl⟩ dX7_has_12

def f_X7_has_buffer (y : Ky) : Int32 := if (13 : Int32) ≤ (y.1 1) then (if (y.2 (12)) = (114 : Int32) then (if (y.2 (11)) = (101 : Int32) then (if (y.2 (10)) = (102 : Int32) then (if (y.2 (9)) = (102 : Int32) then (if (y.2 (8)) = (117 : Int32) then (if (y.2 (7)) = (98 : Int32) then (1 : Int32) else (0 : Int32)) else (0 : Int32)) else (0 : Int32)) else (0 : Int32)) else (0 : Int32)) else (0 : Int32)) else (0 : Int32)
set_option maxRecDepth 100000 in
set_option maxHeartbeats 4000000 in
theorem c_X7_has_buffer {l : Launch} {D : va_G} {cI cB : ClassId} (qm mb ma me mr mn ms mk : Nat) (k : Cf) (v : Fn) (a : Fn) (y : Ky) : CI l X0 D cI cB yX7_has cX7_has 9 (some .boolean) 0 0 0 0 [.ref qm, .int (7 : Int32), .long (22106060518 : Int64), .int (6 : Int32)] (wM cI qm mb ma me mr mn ms mk k v a y) (fun (r : Int32) (_ : Unit) => r = (f_X7_has_buffer y)) (fun _ => (wM cI qm mb ma me mr mn ms mk k v a y)) := by
  refine CI.of (by decide) (Nat.le_of_ble_eq_true rfl) ?_
  intro p e s m below meth c A ls E hr hk hin hA hAA hX Y hl
  have E : EE p c cX7_has 9 s _ m RX7 D cI cB := E
  have hl : lv_has ls 9 [(0, .ref qm), (1, .int (7 : Int32)), (2, .long (22106060518 : Int64)), (4, .int (6 : Int32))] := hl
  refine lv_iload_n E.1.1 E.1.2.1 dX7_has_0 rfl (lv_at hl 1 rfl) ?_
  refine lv_iload E.1.1 E.1.2.1 dX7_has_1 (lv_at hl 3 rfl) ?_
  refine lv_iadd E.1.1 E.1.2.1 dX7_has_3 ?_
  refine lv_cst (v := 13) (by decide) ?_
  refine lv_aload_n E.1.1 E.1.2.1 dX7_has_4 rfl (lv_at hl 0 rfl) ?_
  refine gf_X7_73 E Y 0 rfl rfl dX7_has_5 ?_
  refine lv_icmp_le (tgt := 13) E.1.1 E.1.2.1 dX7_has_8 (by decide) (fun c_8 => ?_) (fun c_8 => ?_)
  · skip
    refine lv_lload_n E.1.1 E.1.2.1 dX7_has_13 rfl (lv_at hl 2 rfl) ?_
    refine lv_lstore (lv' := [(5, .long (22106060518 : Int64)), (0, .ref qm), (1, .int (7 : Int32)), (2, .long (22106060518 : Int64)), (4, .int (6 : Int32))]) E.1.1 E.1.2.1 dX7_has_14 hl (by decide) rfl (fun ls hl => ?_)
    refine lv_iload E.1.1 E.1.2.1 dX7_has_16 (lv_at hl 4 rfl) ?_
    refine lv_iconst (v := 1) E.1.1 E.1.2.1 dX7_has_18 (by decide) ?_
    refine lv_isub E.1.1 E.1.2.1 dX7_has_19 ?_
    refine lv_cst (v := 5) (by decide) ?_
    refine lv_istore (lv' := [(7, .int (5 : Int32)), (5, .long (22106060518 : Int64)), (0, .ref qm), (1, .int (7 : Int32)), (2, .long (22106060518 : Int64)), (4, .int (6 : Int32))]) E.1.1 E.1.2.1 dX7_has_20 hl (by decide) rfl (fun ls hl => ?_)
    refine lv_iload E.1.1 E.1.2.1 dX7_has_22 (lv_at hl 0 rfl) ?_
    refine lv_if_lt (tgt := 81) E.1.1 E.1.2.1 dX7_has_24 (by decide) (fun c_24 => ?_) (fun c_24 => ?_)
    · exact absurd c_24 (by decide)
    · skip
      refine lv_lload E.1.1 E.1.2.1 dX7_has_27 (lv_at hl 1 rfl) ?_
      refine lv_ldc2 (v := 100) E.1.1 E.1.2.1 E.1.2.2.2.1 (E.1.2.2.2.2 _ mj_X7_76) dX7_has_29 ?_
      refine lv_lrem E.1.1 E.1.2.1 dX7_has_32 (by decide) ?_
      refine lv_cstl (v := 18) (by decide) ?_
      refine lv_l2i (v := 18) E.1.1 E.1.2.1 dX7_has_33 (by decide) ?_
      refine lv_istore (lv' := [(8, .int (18 : Int32)), (7, .int (5 : Int32)), (5, .long (22106060518 : Int64)), (0, .ref qm), (1, .int (7 : Int32)), (2, .long (22106060518 : Int64)), (4, .int (6 : Int32))]) E.1.1 E.1.2.1 dX7_has_34 hl (by decide) rfl (fun ls hl => ?_)
      refine lv_aload_n E.1.1 E.1.2.1 dX7_has_36 rfl (lv_at hl 3 rfl) ?_
      refine gf_X7_53 E Y 0 rfl rfl dX7_has_37 ?_
      refine lv_iload_n E.1.1 E.1.2.1 dX7_has_40 rfl (lv_at hl 4 rfl) ?_
      refine lv_iload E.1.1 E.1.2.1 dX7_has_41 (lv_at hl 1 rfl) ?_
      refine lv_iadd E.1.1 E.1.2.1 dX7_has_43 ?_
      refine lv_cst (v := 12) (by decide) ?_
      refine r_ial E Y 7 rfl (12) (by decide) (by unfold vp_in; decide) dX7_has_44 ?_
      refine lv_iload E.1.1 E.1.2.1 dX7_has_45 (lv_at hl 0 rfl) ?_
      refine lv_bipush (v := 27) E.1.1 E.1.2.1 dX7_has_47 (by decide) ?_
      refine lv_icmp_ne (tgt := 57) E.1.1 E.1.2.1 dX7_has_49 (by decide) (fun c_49 => ?_) (fun c_49 => ?_)
      · skip
        refine lv_bipush (v := 96) E.1.1 E.1.2.1 dX7_has_57 (by decide) ?_
        refine lv_iload E.1.1 E.1.2.1 dX7_has_59 (lv_at hl 0 rfl) ?_
        refine lv_iadd E.1.1 E.1.2.1 dX7_has_61 ?_
        refine lv_cst (v := 114) (by decide) ?_
        refine lv_icmp_eq (tgt := 67) E.1.1 E.1.2.1 dX7_has_62 (by decide) (fun c_62 => ?_) (fun c_62 => ?_)
        · skip
          refine lv_lload E.1.1 E.1.2.1 dX7_has_67 (lv_at hl 2 rfl) ?_
          refine lv_ldc2 (v := 100) E.1.1 E.1.2.1 E.1.2.2.2.1 (E.1.2.2.2.2 _ mj_X7_76) dX7_has_69 ?_
          refine lv_ldiv E.1.1 E.1.2.1 dX7_has_72 (by decide) ?_
          refine lv_cstl (v := 221060605) (by decide) ?_
          refine lv_lstore (lv' := [(5, .long (221060605 : Int64)), (8, .int (18 : Int32)), (7, .int (5 : Int32)), (0, .ref qm), (1, .int (7 : Int32)), (2, .long (22106060518 : Int64)), (4, .int (6 : Int32))]) E.1.1 E.1.2.1 dX7_has_73 hl (by decide) rfl (fun ls hl => ?_)
          refine lv_iinc (v := (4 : Int32)) (lv' := [(7, .int (4 : Int32)), (5, .long (221060605 : Int64)), (8, .int (18 : Int32)), (0, .ref qm), (1, .int (7 : Int32)), (2, .long (22106060518 : Int64)), (4, .int (6 : Int32))]) E.1.1 E.1.2.1 dX7_has_75 hl (k := 2) rfl (by decide) (by decide) rfl (fun ls hl => ?_)
          refine lv_goto (tgt := 22) E.1.1 E.1.2.1 dX7_has_78 (by decide) ?_
          refine lv_iload E.1.1 E.1.2.1 dX7_has_22 (lv_at hl 0 rfl) ?_
          refine lv_if_lt (tgt := 81) E.1.1 E.1.2.1 dX7_has_24 (by decide) (fun c_24 => ?_) (fun c_24 => ?_)
          · exact absurd c_24 (by decide)
          · skip
            refine lv_lload E.1.1 E.1.2.1 dX7_has_27 (lv_at hl 1 rfl) ?_
            refine lv_ldc2 (v := 100) E.1.1 E.1.2.1 E.1.2.2.2.1 (E.1.2.2.2.2 _ mj_X7_76) dX7_has_29 ?_
            refine lv_lrem E.1.1 E.1.2.1 dX7_has_32 (by decide) ?_
            refine lv_cstl (v := 5) (by decide) ?_
            refine lv_l2i (v := 5) E.1.1 E.1.2.1 dX7_has_33 (by decide) ?_
            refine lv_istore (lv' := [(8, .int (5 : Int32)), (7, .int (4 : Int32)), (5, .long (221060605 : Int64)), (0, .ref qm), (1, .int (7 : Int32)), (2, .long (22106060518 : Int64)), (4, .int (6 : Int32))]) E.1.1 E.1.2.1 dX7_has_34 hl (by decide) rfl (fun ls hl => ?_)
            refine lv_aload_n E.1.1 E.1.2.1 dX7_has_36 rfl (lv_at hl 3 rfl) ?_
            refine gf_X7_53 E Y 0 rfl rfl dX7_has_37 ?_
            refine lv_iload_n E.1.1 E.1.2.1 dX7_has_40 rfl (lv_at hl 4 rfl) ?_
            refine lv_iload E.1.1 E.1.2.1 dX7_has_41 (lv_at hl 1 rfl) ?_
            refine lv_iadd E.1.1 E.1.2.1 dX7_has_43 ?_
            refine lv_cst (v := 11) (by decide) ?_
            refine r_ial E Y 7 rfl (11) (by decide) (by unfold vp_in; decide) dX7_has_44 ?_
            refine lv_iload E.1.1 E.1.2.1 dX7_has_45 (lv_at hl 0 rfl) ?_
            refine lv_bipush (v := 27) E.1.1 E.1.2.1 dX7_has_47 (by decide) ?_
            refine lv_icmp_ne (tgt := 57) E.1.1 E.1.2.1 dX7_has_49 (by decide) (fun c_49 => ?_) (fun c_49 => ?_)
            · skip
              refine lv_bipush (v := 96) E.1.1 E.1.2.1 dX7_has_57 (by decide) ?_
              refine lv_iload E.1.1 E.1.2.1 dX7_has_59 (lv_at hl 0 rfl) ?_
              refine lv_iadd E.1.1 E.1.2.1 dX7_has_61 ?_
              refine lv_cst (v := 101) (by decide) ?_
              refine lv_icmp_eq (tgt := 67) E.1.1 E.1.2.1 dX7_has_62 (by decide) (fun c_62_r1 => ?_) (fun c_62_r1 => ?_)
              · skip
                refine lv_lload E.1.1 E.1.2.1 dX7_has_67 (lv_at hl 2 rfl) ?_
                refine lv_ldc2 (v := 100) E.1.1 E.1.2.1 E.1.2.2.2.1 (E.1.2.2.2.2 _ mj_X7_76) dX7_has_69 ?_
                refine lv_ldiv E.1.1 E.1.2.1 dX7_has_72 (by decide) ?_
                refine lv_cstl (v := 2210606) (by decide) ?_
                refine lv_lstore (lv' := [(5, .long (2210606 : Int64)), (8, .int (5 : Int32)), (7, .int (4 : Int32)), (0, .ref qm), (1, .int (7 : Int32)), (2, .long (22106060518 : Int64)), (4, .int (6 : Int32))]) E.1.1 E.1.2.1 dX7_has_73 hl (by decide) rfl (fun ls hl => ?_)
                refine lv_iinc (v := (3 : Int32)) (lv' := [(7, .int (3 : Int32)), (5, .long (2210606 : Int64)), (8, .int (5 : Int32)), (0, .ref qm), (1, .int (7 : Int32)), (2, .long (22106060518 : Int64)), (4, .int (6 : Int32))]) E.1.1 E.1.2.1 dX7_has_75 hl (k := 2) rfl (by decide) (by decide) rfl (fun ls hl => ?_)
                refine lv_goto (tgt := 22) E.1.1 E.1.2.1 dX7_has_78 (by decide) ?_
                refine lv_iload E.1.1 E.1.2.1 dX7_has_22 (lv_at hl 0 rfl) ?_
                refine lv_if_lt (tgt := 81) E.1.1 E.1.2.1 dX7_has_24 (by decide) (fun c_24 => ?_) (fun c_24 => ?_)
                · exact absurd c_24 (by decide)
                · skip
                  refine lv_lload E.1.1 E.1.2.1 dX7_has_27 (lv_at hl 1 rfl) ?_
                  refine lv_ldc2 (v := 100) E.1.1 E.1.2.1 E.1.2.2.2.1 (E.1.2.2.2.2 _ mj_X7_76) dX7_has_29 ?_
                  refine lv_lrem E.1.1 E.1.2.1 dX7_has_32 (by decide) ?_
                  refine lv_cstl (v := 6) (by decide) ?_
                  refine lv_l2i (v := 6) E.1.1 E.1.2.1 dX7_has_33 (by decide) ?_
                  refine lv_istore (lv' := [(8, .int (6 : Int32)), (7, .int (3 : Int32)), (5, .long (2210606 : Int64)), (0, .ref qm), (1, .int (7 : Int32)), (2, .long (22106060518 : Int64)), (4, .int (6 : Int32))]) E.1.1 E.1.2.1 dX7_has_34 hl (by decide) rfl (fun ls hl => ?_)
                  refine lv_aload_n E.1.1 E.1.2.1 dX7_has_36 rfl (lv_at hl 3 rfl) ?_
                  refine gf_X7_53 E Y 0 rfl rfl dX7_has_37 ?_
                  refine lv_iload_n E.1.1 E.1.2.1 dX7_has_40 rfl (lv_at hl 4 rfl) ?_
                  refine lv_iload E.1.1 E.1.2.1 dX7_has_41 (lv_at hl 1 rfl) ?_
                  refine lv_iadd E.1.1 E.1.2.1 dX7_has_43 ?_
                  refine lv_cst (v := 10) (by decide) ?_
                  refine r_ial E Y 7 rfl (10) (by decide) (by unfold vp_in; decide) dX7_has_44 ?_
                  refine lv_iload E.1.1 E.1.2.1 dX7_has_45 (lv_at hl 0 rfl) ?_
                  refine lv_bipush (v := 27) E.1.1 E.1.2.1 dX7_has_47 (by decide) ?_
                  refine lv_icmp_ne (tgt := 57) E.1.1 E.1.2.1 dX7_has_49 (by decide) (fun c_49 => ?_) (fun c_49 => ?_)
                  · skip
                    refine lv_bipush (v := 96) E.1.1 E.1.2.1 dX7_has_57 (by decide) ?_
                    refine lv_iload E.1.1 E.1.2.1 dX7_has_59 (lv_at hl 0 rfl) ?_
                    refine lv_iadd E.1.1 E.1.2.1 dX7_has_61 ?_
                    refine lv_cst (v := 102) (by decide) ?_
                    refine lv_icmp_eq (tgt := 67) E.1.1 E.1.2.1 dX7_has_62 (by decide) (fun c_62_r2 => ?_) (fun c_62_r2 => ?_)
                    · skip
                      refine lv_lload E.1.1 E.1.2.1 dX7_has_67 (lv_at hl 2 rfl) ?_
                      refine lv_ldc2 (v := 100) E.1.1 E.1.2.1 E.1.2.2.2.1 (E.1.2.2.2.2 _ mj_X7_76) dX7_has_69 ?_
                      refine lv_ldiv E.1.1 E.1.2.1 dX7_has_72 (by decide) ?_
                      refine lv_cstl (v := 22106) (by decide) ?_
                      refine lv_lstore (lv' := [(5, .long (22106 : Int64)), (8, .int (6 : Int32)), (7, .int (3 : Int32)), (0, .ref qm), (1, .int (7 : Int32)), (2, .long (22106060518 : Int64)), (4, .int (6 : Int32))]) E.1.1 E.1.2.1 dX7_has_73 hl (by decide) rfl (fun ls hl => ?_)
                      refine lv_iinc (v := (2 : Int32)) (lv' := [(7, .int (2 : Int32)), (5, .long (22106 : Int64)), (8, .int (6 : Int32)), (0, .ref qm), (1, .int (7 : Int32)), (2, .long (22106060518 : Int64)), (4, .int (6 : Int32))]) E.1.1 E.1.2.1 dX7_has_75 hl (k := 2) rfl (by decide) (by decide) rfl (fun ls hl => ?_)
                      refine lv_goto (tgt := 22) E.1.1 E.1.2.1 dX7_has_78 (by decide) ?_
                      refine lv_iload E.1.1 E.1.2.1 dX7_has_22 (lv_at hl 0 rfl) ?_
                      refine lv_if_lt (tgt := 81) E.1.1 E.1.2.1 dX7_has_24 (by decide) (fun c_24 => ?_) (fun c_24 => ?_)
                      · exact absurd c_24 (by decide)
                      · skip
                        refine lv_lload E.1.1 E.1.2.1 dX7_has_27 (lv_at hl 1 rfl) ?_
                        refine lv_ldc2 (v := 100) E.1.1 E.1.2.1 E.1.2.2.2.1 (E.1.2.2.2.2 _ mj_X7_76) dX7_has_29 ?_
                        refine lv_lrem E.1.1 E.1.2.1 dX7_has_32 (by decide) ?_
                        refine lv_cstl (v := 6) (by decide) ?_
                        refine lv_l2i (v := 6) E.1.1 E.1.2.1 dX7_has_33 (by decide) ?_
                        refine lv_istore (lv' := [(8, .int (6 : Int32)), (7, .int (2 : Int32)), (5, .long (22106 : Int64)), (0, .ref qm), (1, .int (7 : Int32)), (2, .long (22106060518 : Int64)), (4, .int (6 : Int32))]) E.1.1 E.1.2.1 dX7_has_34 hl (by decide) rfl (fun ls hl => ?_)
                        refine lv_aload_n E.1.1 E.1.2.1 dX7_has_36 rfl (lv_at hl 3 rfl) ?_
                        refine gf_X7_53 E Y 0 rfl rfl dX7_has_37 ?_
                        refine lv_iload_n E.1.1 E.1.2.1 dX7_has_40 rfl (lv_at hl 4 rfl) ?_
                        refine lv_iload E.1.1 E.1.2.1 dX7_has_41 (lv_at hl 1 rfl) ?_
                        refine lv_iadd E.1.1 E.1.2.1 dX7_has_43 ?_
                        refine lv_cst (v := 9) (by decide) ?_
                        refine r_ial E Y 7 rfl (9) (by decide) (by unfold vp_in; decide) dX7_has_44 ?_
                        refine lv_iload E.1.1 E.1.2.1 dX7_has_45 (lv_at hl 0 rfl) ?_
                        refine lv_bipush (v := 27) E.1.1 E.1.2.1 dX7_has_47 (by decide) ?_
                        refine lv_icmp_ne (tgt := 57) E.1.1 E.1.2.1 dX7_has_49 (by decide) (fun c_49 => ?_) (fun c_49 => ?_)
                        · skip
                          refine lv_bipush (v := 96) E.1.1 E.1.2.1 dX7_has_57 (by decide) ?_
                          refine lv_iload E.1.1 E.1.2.1 dX7_has_59 (lv_at hl 0 rfl) ?_
                          refine lv_iadd E.1.1 E.1.2.1 dX7_has_61 ?_
                          refine lv_cst (v := 102) (by decide) ?_
                          refine lv_icmp_eq (tgt := 67) E.1.1 E.1.2.1 dX7_has_62 (by decide) (fun c_62_r3 => ?_) (fun c_62_r3 => ?_)
                          · skip
                            refine lv_lload E.1.1 E.1.2.1 dX7_has_67 (lv_at hl 2 rfl) ?_
                            refine lv_ldc2 (v := 100) E.1.1 E.1.2.1 E.1.2.2.2.1 (E.1.2.2.2.2 _ mj_X7_76) dX7_has_69 ?_
                            refine lv_ldiv E.1.1 E.1.2.1 dX7_has_72 (by decide) ?_
                            refine lv_cstl (v := 221) (by decide) ?_
                            refine lv_lstore (lv' := [(5, .long (221 : Int64)), (8, .int (6 : Int32)), (7, .int (2 : Int32)), (0, .ref qm), (1, .int (7 : Int32)), (2, .long (22106060518 : Int64)), (4, .int (6 : Int32))]) E.1.1 E.1.2.1 dX7_has_73 hl (by decide) rfl (fun ls hl => ?_)
                            refine lv_iinc (v := (1 : Int32)) (lv' := [(7, .int (1 : Int32)), (5, .long (221 : Int64)), (8, .int (6 : Int32)), (0, .ref qm), (1, .int (7 : Int32)), (2, .long (22106060518 : Int64)), (4, .int (6 : Int32))]) E.1.1 E.1.2.1 dX7_has_75 hl (k := 2) rfl (by decide) (by decide) rfl (fun ls hl => ?_)
                            refine lv_goto (tgt := 22) E.1.1 E.1.2.1 dX7_has_78 (by decide) ?_
                            refine lv_iload E.1.1 E.1.2.1 dX7_has_22 (lv_at hl 0 rfl) ?_
                            refine lv_if_lt (tgt := 81) E.1.1 E.1.2.1 dX7_has_24 (by decide) (fun c_24 => ?_) (fun c_24 => ?_)
                            · exact absurd c_24 (by decide)
                            · skip
                              refine lv_lload E.1.1 E.1.2.1 dX7_has_27 (lv_at hl 1 rfl) ?_
                              refine lv_ldc2 (v := 100) E.1.1 E.1.2.1 E.1.2.2.2.1 (E.1.2.2.2.2 _ mj_X7_76) dX7_has_29 ?_
                              refine lv_lrem E.1.1 E.1.2.1 dX7_has_32 (by decide) ?_
                              refine lv_cstl (v := 21) (by decide) ?_
                              refine lv_l2i (v := 21) E.1.1 E.1.2.1 dX7_has_33 (by decide) ?_
                              refine lv_istore (lv' := [(8, .int (21 : Int32)), (7, .int (1 : Int32)), (5, .long (221 : Int64)), (0, .ref qm), (1, .int (7 : Int32)), (2, .long (22106060518 : Int64)), (4, .int (6 : Int32))]) E.1.1 E.1.2.1 dX7_has_34 hl (by decide) rfl (fun ls hl => ?_)
                              refine lv_aload_n E.1.1 E.1.2.1 dX7_has_36 rfl (lv_at hl 3 rfl) ?_
                              refine gf_X7_53 E Y 0 rfl rfl dX7_has_37 ?_
                              refine lv_iload_n E.1.1 E.1.2.1 dX7_has_40 rfl (lv_at hl 4 rfl) ?_
                              refine lv_iload E.1.1 E.1.2.1 dX7_has_41 (lv_at hl 1 rfl) ?_
                              refine lv_iadd E.1.1 E.1.2.1 dX7_has_43 ?_
                              refine lv_cst (v := 8) (by decide) ?_
                              refine r_ial E Y 7 rfl (8) (by decide) (by unfold vp_in; decide) dX7_has_44 ?_
                              refine lv_iload E.1.1 E.1.2.1 dX7_has_45 (lv_at hl 0 rfl) ?_
                              refine lv_bipush (v := 27) E.1.1 E.1.2.1 dX7_has_47 (by decide) ?_
                              refine lv_icmp_ne (tgt := 57) E.1.1 E.1.2.1 dX7_has_49 (by decide) (fun c_49 => ?_) (fun c_49 => ?_)
                              · skip
                                refine lv_bipush (v := 96) E.1.1 E.1.2.1 dX7_has_57 (by decide) ?_
                                refine lv_iload E.1.1 E.1.2.1 dX7_has_59 (lv_at hl 0 rfl) ?_
                                refine lv_iadd E.1.1 E.1.2.1 dX7_has_61 ?_
                                refine lv_cst (v := 117) (by decide) ?_
                                refine lv_icmp_eq (tgt := 67) E.1.1 E.1.2.1 dX7_has_62 (by decide) (fun c_62_r4 => ?_) (fun c_62_r4 => ?_)
                                · skip
                                  refine lv_lload E.1.1 E.1.2.1 dX7_has_67 (lv_at hl 2 rfl) ?_
                                  refine lv_ldc2 (v := 100) E.1.1 E.1.2.1 E.1.2.2.2.1 (E.1.2.2.2.2 _ mj_X7_76) dX7_has_69 ?_
                                  refine lv_ldiv E.1.1 E.1.2.1 dX7_has_72 (by decide) ?_
                                  refine lv_cstl (v := 2) (by decide) ?_
                                  refine lv_lstore (lv' := [(5, .long (2 : Int64)), (8, .int (21 : Int32)), (7, .int (1 : Int32)), (0, .ref qm), (1, .int (7 : Int32)), (2, .long (22106060518 : Int64)), (4, .int (6 : Int32))]) E.1.1 E.1.2.1 dX7_has_73 hl (by decide) rfl (fun ls hl => ?_)
                                  refine lv_iinc (v := (0 : Int32)) (lv' := [(7, .int (0 : Int32)), (5, .long (2 : Int64)), (8, .int (21 : Int32)), (0, .ref qm), (1, .int (7 : Int32)), (2, .long (22106060518 : Int64)), (4, .int (6 : Int32))]) E.1.1 E.1.2.1 dX7_has_75 hl (k := 2) rfl (by decide) (by decide) rfl (fun ls hl => ?_)
                                  refine lv_goto (tgt := 22) E.1.1 E.1.2.1 dX7_has_78 (by decide) ?_
                                  refine lv_iload E.1.1 E.1.2.1 dX7_has_22 (lv_at hl 0 rfl) ?_
                                  refine lv_if_lt (tgt := 81) E.1.1 E.1.2.1 dX7_has_24 (by decide) (fun c_24 => ?_) (fun c_24 => ?_)
                                  · exact absurd c_24 (by decide)
                                  · skip
                                    refine lv_lload E.1.1 E.1.2.1 dX7_has_27 (lv_at hl 1 rfl) ?_
                                    refine lv_ldc2 (v := 100) E.1.1 E.1.2.1 E.1.2.2.2.1 (E.1.2.2.2.2 _ mj_X7_76) dX7_has_29 ?_
                                    refine lv_lrem E.1.1 E.1.2.1 dX7_has_32 (by decide) ?_
                                    refine lv_cstl (v := 2) (by decide) ?_
                                    refine lv_l2i (v := 2) E.1.1 E.1.2.1 dX7_has_33 (by decide) ?_
                                    refine lv_istore (lv' := [(8, .int (2 : Int32)), (7, .int (0 : Int32)), (5, .long (2 : Int64)), (0, .ref qm), (1, .int (7 : Int32)), (2, .long (22106060518 : Int64)), (4, .int (6 : Int32))]) E.1.1 E.1.2.1 dX7_has_34 hl (by decide) rfl (fun ls hl => ?_)
                                    refine lv_aload_n E.1.1 E.1.2.1 dX7_has_36 rfl (lv_at hl 3 rfl) ?_
                                    refine gf_X7_53 E Y 0 rfl rfl dX7_has_37 ?_
                                    refine lv_iload_n E.1.1 E.1.2.1 dX7_has_40 rfl (lv_at hl 4 rfl) ?_
                                    refine lv_iload E.1.1 E.1.2.1 dX7_has_41 (lv_at hl 1 rfl) ?_
                                    refine lv_iadd E.1.1 E.1.2.1 dX7_has_43 ?_
                                    refine lv_cst (v := 7) (by decide) ?_
                                    refine r_ial E Y 7 rfl (7) (by decide) (by unfold vp_in; decide) dX7_has_44 ?_
                                    refine lv_iload E.1.1 E.1.2.1 dX7_has_45 (lv_at hl 0 rfl) ?_
                                    refine lv_bipush (v := 27) E.1.1 E.1.2.1 dX7_has_47 (by decide) ?_
                                    refine lv_icmp_ne (tgt := 57) E.1.1 E.1.2.1 dX7_has_49 (by decide) (fun c_49 => ?_) (fun c_49 => ?_)
                                    · skip
                                      refine lv_bipush (v := 96) E.1.1 E.1.2.1 dX7_has_57 (by decide) ?_
                                      refine lv_iload E.1.1 E.1.2.1 dX7_has_59 (lv_at hl 0 rfl) ?_
                                      refine lv_iadd E.1.1 E.1.2.1 dX7_has_61 ?_
                                      refine lv_cst (v := 98) (by decide) ?_
                                      refine lv_icmp_eq (tgt := 67) E.1.1 E.1.2.1 dX7_has_62 (by decide) (fun c_62_r5 => ?_) (fun c_62_r5 => ?_)
                                      · skip
                                        refine lv_lload E.1.1 E.1.2.1 dX7_has_67 (lv_at hl 2 rfl) ?_
                                        refine lv_ldc2 (v := 100) E.1.1 E.1.2.1 E.1.2.2.2.1 (E.1.2.2.2.2 _ mj_X7_76) dX7_has_69 ?_
                                        refine lv_ldiv E.1.1 E.1.2.1 dX7_has_72 (by decide) ?_
                                        refine lv_cstl (v := 0) (by decide) ?_
                                        refine lv_lstore (lv' := [(5, .long (0 : Int64)), (8, .int (2 : Int32)), (7, .int (0 : Int32)), (0, .ref qm), (1, .int (7 : Int32)), (2, .long (22106060518 : Int64)), (4, .int (6 : Int32))]) E.1.1 E.1.2.1 dX7_has_73 hl (by decide) rfl (fun ls hl => ?_)
                                        refine lv_iinc (v := (-1 : Int32)) (lv' := [(7, .int (-1 : Int32)), (5, .long (0 : Int64)), (8, .int (2 : Int32)), (0, .ref qm), (1, .int (7 : Int32)), (2, .long (22106060518 : Int64)), (4, .int (6 : Int32))]) E.1.1 E.1.2.1 dX7_has_75 hl (k := 2) rfl (by decide) (by decide) rfl (fun ls hl => ?_)
                                        refine lv_goto (tgt := 22) E.1.1 E.1.2.1 dX7_has_78 (by decide) ?_
                                        refine lv_iload E.1.1 E.1.2.1 dX7_has_22 (lv_at hl 0 rfl) ?_
                                        refine lv_if_lt (tgt := 81) E.1.1 E.1.2.1 dX7_has_24 (by decide) (fun c_24 => ?_) (fun c_24 => ?_)
                                        · skip
                                          refine lv_iconst (v := 1) E.1.1 E.1.2.1 dX7_has_81 (by decide) ?_
                                          have e9 : (f_X7_has_buffer y) = (1 : Int32) := (if_pos c_8).trans ((if_pos c_62).trans ((if_pos c_62_r1).trans ((if_pos c_62_r2).trans ((if_pos c_62_r3).trans ((if_pos c_62_r4).trans ((if_pos c_62_r5).trans (rfl)))))))
                                          exact r_zret E Y hr hk (1 : Int32) rfl () (e9.symm) rfl ⟨Nat.le_of_ble_eq_true rfl, Nat.le_of_ble_eq_true rfl⟩ dX7_has_82
                                        · exact absurd (by decide) c_24
                                      · skip
                                        refine lv_iconst (v := 0) E.1.1 E.1.2.1 dX7_has_65 (by decide) ?_
                                        have e9 : (f_X7_has_buffer y) = (0 : Int32) := (if_pos c_8).trans ((if_pos c_62).trans ((if_pos c_62_r1).trans ((if_pos c_62_r2).trans ((if_pos c_62_r3).trans ((if_pos c_62_r4).trans ((if_neg c_62_r5).trans (rfl)))))))
                                        exact r_zret E Y hr hk (0 : Int32) rfl () (e9.symm) rfl ⟨Nat.le_of_ble_eq_true rfl, Nat.le_of_ble_eq_true rfl⟩ dX7_has_66
                                    · exact absurd c_49 (by decide)
                                · skip
                                  refine lv_iconst (v := 0) E.1.1 E.1.2.1 dX7_has_65 (by decide) ?_
                                  have e9 : (f_X7_has_buffer y) = (0 : Int32) := (if_pos c_8).trans ((if_pos c_62).trans ((if_pos c_62_r1).trans ((if_pos c_62_r2).trans ((if_pos c_62_r3).trans ((if_neg c_62_r4).trans (rfl))))))
                                  exact r_zret E Y hr hk (0 : Int32) rfl () (e9.symm) rfl ⟨Nat.le_of_ble_eq_true rfl, Nat.le_of_ble_eq_true rfl⟩ dX7_has_66
                              · exact absurd c_49 (by decide)
                          · skip
                            refine lv_iconst (v := 0) E.1.1 E.1.2.1 dX7_has_65 (by decide) ?_
                            have e9 : (f_X7_has_buffer y) = (0 : Int32) := (if_pos c_8).trans ((if_pos c_62).trans ((if_pos c_62_r1).trans ((if_pos c_62_r2).trans ((if_neg c_62_r3).trans (rfl)))))
                            exact r_zret E Y hr hk (0 : Int32) rfl () (e9.symm) rfl ⟨Nat.le_of_ble_eq_true rfl, Nat.le_of_ble_eq_true rfl⟩ dX7_has_66
                        · exact absurd c_49 (by decide)
                    · skip
                      refine lv_iconst (v := 0) E.1.1 E.1.2.1 dX7_has_65 (by decide) ?_
                      have e9 : (f_X7_has_buffer y) = (0 : Int32) := (if_pos c_8).trans ((if_pos c_62).trans ((if_pos c_62_r1).trans ((if_neg c_62_r2).trans (rfl))))
                      exact r_zret E Y hr hk (0 : Int32) rfl () (e9.symm) rfl ⟨Nat.le_of_ble_eq_true rfl, Nat.le_of_ble_eq_true rfl⟩ dX7_has_66
                  · exact absurd c_49 (by decide)
              · skip
                refine lv_iconst (v := 0) E.1.1 E.1.2.1 dX7_has_65 (by decide) ?_
                have e9 : (f_X7_has_buffer y) = (0 : Int32) := (if_pos c_8).trans ((if_pos c_62).trans ((if_neg c_62_r1).trans (rfl)))
                exact r_zret E Y hr hk (0 : Int32) rfl () (e9.symm) rfl ⟨Nat.le_of_ble_eq_true rfl, Nat.le_of_ble_eq_true rfl⟩ dX7_has_66
            · exact absurd c_49 (by decide)
        · skip
          refine lv_iconst (v := 0) E.1.1 E.1.2.1 dX7_has_65 (by decide) ?_
          have e9 : (f_X7_has_buffer y) = (0 : Int32) := (if_pos c_8).trans ((if_neg c_62).trans (rfl))
          exact r_zret E Y hr hk (0 : Int32) rfl () (e9.symm) rfl ⟨Nat.le_of_ble_eq_true rfl, Nat.le_of_ble_eq_true rfl⟩ dX7_has_66
      · exact absurd c_49 (by decide)
  · skip
    refine lv_iconst (v := 0) E.1.1 E.1.2.1 dX7_has_11 (by decide) ?_
    have e9 : (f_X7_has_buffer y) = (0 : Int32) := (if_neg c_8).trans (rfl)
    exact r_zret E Y hr hk (0 : Int32) rfl () (e9.symm) rfl ⟨Nat.le_of_ble_eq_true rfl, Nat.le_of_ble_eq_true rfl⟩ dX7_has_12

def f_X7_has_hybrid (y : Ky) : Int32 := if (13 : Int32) ≤ (y.1 1) then (if (y.2 (12)) = (100 : Int32) then (if (y.2 (11)) = (105 : Int32) then (if (y.2 (10)) = (114 : Int32) then (if (y.2 (9)) = (98 : Int32) then (if (y.2 (8)) = (121 : Int32) then (if (y.2 (7)) = (104 : Int32) then (1 : Int32) else (0 : Int32)) else (0 : Int32)) else (0 : Int32)) else (0 : Int32)) else (0 : Int32)) else (0 : Int32)) else (0 : Int32)
set_option maxRecDepth 100000 in
set_option maxHeartbeats 4000000 in
theorem c_X7_has_hybrid {l : Launch} {D : va_G} {cI cB : ClassId} (qm mb ma me mr mn ms mk : Nat) (k : Cf) (v : Fn) (a : Fn) (y : Ky) : CI l X0 D cI cB yX7_has cX7_has 9 (some .boolean) 0 0 0 0 [.ref qm, .int (7 : Int32), .long (82502180904 : Int64), .int (6 : Int32)] (wM cI qm mb ma me mr mn ms mk k v a y) (fun (r : Int32) (_ : Unit) => r = (f_X7_has_hybrid y)) (fun _ => (wM cI qm mb ma me mr mn ms mk k v a y)) := by
  refine CI.of (by decide) (Nat.le_of_ble_eq_true rfl) ?_
  intro p e s m below meth c A ls E hr hk hin hA hAA hX Y hl
  have E : EE p c cX7_has 9 s _ m RX7 D cI cB := E
  have hl : lv_has ls 9 [(0, .ref qm), (1, .int (7 : Int32)), (2, .long (82502180904 : Int64)), (4, .int (6 : Int32))] := hl
  refine lv_iload_n E.1.1 E.1.2.1 dX7_has_0 rfl (lv_at hl 1 rfl) ?_
  refine lv_iload E.1.1 E.1.2.1 dX7_has_1 (lv_at hl 3 rfl) ?_
  refine lv_iadd E.1.1 E.1.2.1 dX7_has_3 ?_
  refine lv_cst (v := 13) (by decide) ?_
  refine lv_aload_n E.1.1 E.1.2.1 dX7_has_4 rfl (lv_at hl 0 rfl) ?_
  refine gf_X7_73 E Y 0 rfl rfl dX7_has_5 ?_
  refine lv_icmp_le (tgt := 13) E.1.1 E.1.2.1 dX7_has_8 (by decide) (fun c_8 => ?_) (fun c_8 => ?_)
  · skip
    refine lv_lload_n E.1.1 E.1.2.1 dX7_has_13 rfl (lv_at hl 2 rfl) ?_
    refine lv_lstore (lv' := [(5, .long (82502180904 : Int64)), (0, .ref qm), (1, .int (7 : Int32)), (2, .long (82502180904 : Int64)), (4, .int (6 : Int32))]) E.1.1 E.1.2.1 dX7_has_14 hl (by decide) rfl (fun ls hl => ?_)
    refine lv_iload E.1.1 E.1.2.1 dX7_has_16 (lv_at hl 4 rfl) ?_
    refine lv_iconst (v := 1) E.1.1 E.1.2.1 dX7_has_18 (by decide) ?_
    refine lv_isub E.1.1 E.1.2.1 dX7_has_19 ?_
    refine lv_cst (v := 5) (by decide) ?_
    refine lv_istore (lv' := [(7, .int (5 : Int32)), (5, .long (82502180904 : Int64)), (0, .ref qm), (1, .int (7 : Int32)), (2, .long (82502180904 : Int64)), (4, .int (6 : Int32))]) E.1.1 E.1.2.1 dX7_has_20 hl (by decide) rfl (fun ls hl => ?_)
    refine lv_iload E.1.1 E.1.2.1 dX7_has_22 (lv_at hl 0 rfl) ?_
    refine lv_if_lt (tgt := 81) E.1.1 E.1.2.1 dX7_has_24 (by decide) (fun c_24 => ?_) (fun c_24 => ?_)
    · exact absurd c_24 (by decide)
    · skip
      refine lv_lload E.1.1 E.1.2.1 dX7_has_27 (lv_at hl 1 rfl) ?_
      refine lv_ldc2 (v := 100) E.1.1 E.1.2.1 E.1.2.2.2.1 (E.1.2.2.2.2 _ mj_X7_76) dX7_has_29 ?_
      refine lv_lrem E.1.1 E.1.2.1 dX7_has_32 (by decide) ?_
      refine lv_cstl (v := 4) (by decide) ?_
      refine lv_l2i (v := 4) E.1.1 E.1.2.1 dX7_has_33 (by decide) ?_
      refine lv_istore (lv' := [(8, .int (4 : Int32)), (7, .int (5 : Int32)), (5, .long (82502180904 : Int64)), (0, .ref qm), (1, .int (7 : Int32)), (2, .long (82502180904 : Int64)), (4, .int (6 : Int32))]) E.1.1 E.1.2.1 dX7_has_34 hl (by decide) rfl (fun ls hl => ?_)
      refine lv_aload_n E.1.1 E.1.2.1 dX7_has_36 rfl (lv_at hl 3 rfl) ?_
      refine gf_X7_53 E Y 0 rfl rfl dX7_has_37 ?_
      refine lv_iload_n E.1.1 E.1.2.1 dX7_has_40 rfl (lv_at hl 4 rfl) ?_
      refine lv_iload E.1.1 E.1.2.1 dX7_has_41 (lv_at hl 1 rfl) ?_
      refine lv_iadd E.1.1 E.1.2.1 dX7_has_43 ?_
      refine lv_cst (v := 12) (by decide) ?_
      refine r_ial E Y 7 rfl (12) (by decide) (by unfold vp_in; decide) dX7_has_44 ?_
      refine lv_iload E.1.1 E.1.2.1 dX7_has_45 (lv_at hl 0 rfl) ?_
      refine lv_bipush (v := 27) E.1.1 E.1.2.1 dX7_has_47 (by decide) ?_
      refine lv_icmp_ne (tgt := 57) E.1.1 E.1.2.1 dX7_has_49 (by decide) (fun c_49 => ?_) (fun c_49 => ?_)
      · skip
        refine lv_bipush (v := 96) E.1.1 E.1.2.1 dX7_has_57 (by decide) ?_
        refine lv_iload E.1.1 E.1.2.1 dX7_has_59 (lv_at hl 0 rfl) ?_
        refine lv_iadd E.1.1 E.1.2.1 dX7_has_61 ?_
        refine lv_cst (v := 100) (by decide) ?_
        refine lv_icmp_eq (tgt := 67) E.1.1 E.1.2.1 dX7_has_62 (by decide) (fun c_62 => ?_) (fun c_62 => ?_)
        · skip
          refine lv_lload E.1.1 E.1.2.1 dX7_has_67 (lv_at hl 2 rfl) ?_
          refine lv_ldc2 (v := 100) E.1.1 E.1.2.1 E.1.2.2.2.1 (E.1.2.2.2.2 _ mj_X7_76) dX7_has_69 ?_
          refine lv_ldiv E.1.1 E.1.2.1 dX7_has_72 (by decide) ?_
          refine lv_cstl (v := 825021809) (by decide) ?_
          refine lv_lstore (lv' := [(5, .long (825021809 : Int64)), (8, .int (4 : Int32)), (7, .int (5 : Int32)), (0, .ref qm), (1, .int (7 : Int32)), (2, .long (82502180904 : Int64)), (4, .int (6 : Int32))]) E.1.1 E.1.2.1 dX7_has_73 hl (by decide) rfl (fun ls hl => ?_)
          refine lv_iinc (v := (4 : Int32)) (lv' := [(7, .int (4 : Int32)), (5, .long (825021809 : Int64)), (8, .int (4 : Int32)), (0, .ref qm), (1, .int (7 : Int32)), (2, .long (82502180904 : Int64)), (4, .int (6 : Int32))]) E.1.1 E.1.2.1 dX7_has_75 hl (k := 2) rfl (by decide) (by decide) rfl (fun ls hl => ?_)
          refine lv_goto (tgt := 22) E.1.1 E.1.2.1 dX7_has_78 (by decide) ?_
          refine lv_iload E.1.1 E.1.2.1 dX7_has_22 (lv_at hl 0 rfl) ?_
          refine lv_if_lt (tgt := 81) E.1.1 E.1.2.1 dX7_has_24 (by decide) (fun c_24 => ?_) (fun c_24 => ?_)
          · exact absurd c_24 (by decide)
          · skip
            refine lv_lload E.1.1 E.1.2.1 dX7_has_27 (lv_at hl 1 rfl) ?_
            refine lv_ldc2 (v := 100) E.1.1 E.1.2.1 E.1.2.2.2.1 (E.1.2.2.2.2 _ mj_X7_76) dX7_has_29 ?_
            refine lv_lrem E.1.1 E.1.2.1 dX7_has_32 (by decide) ?_
            refine lv_cstl (v := 9) (by decide) ?_
            refine lv_l2i (v := 9) E.1.1 E.1.2.1 dX7_has_33 (by decide) ?_
            refine lv_istore (lv' := [(8, .int (9 : Int32)), (7, .int (4 : Int32)), (5, .long (825021809 : Int64)), (0, .ref qm), (1, .int (7 : Int32)), (2, .long (82502180904 : Int64)), (4, .int (6 : Int32))]) E.1.1 E.1.2.1 dX7_has_34 hl (by decide) rfl (fun ls hl => ?_)
            refine lv_aload_n E.1.1 E.1.2.1 dX7_has_36 rfl (lv_at hl 3 rfl) ?_
            refine gf_X7_53 E Y 0 rfl rfl dX7_has_37 ?_
            refine lv_iload_n E.1.1 E.1.2.1 dX7_has_40 rfl (lv_at hl 4 rfl) ?_
            refine lv_iload E.1.1 E.1.2.1 dX7_has_41 (lv_at hl 1 rfl) ?_
            refine lv_iadd E.1.1 E.1.2.1 dX7_has_43 ?_
            refine lv_cst (v := 11) (by decide) ?_
            refine r_ial E Y 7 rfl (11) (by decide) (by unfold vp_in; decide) dX7_has_44 ?_
            refine lv_iload E.1.1 E.1.2.1 dX7_has_45 (lv_at hl 0 rfl) ?_
            refine lv_bipush (v := 27) E.1.1 E.1.2.1 dX7_has_47 (by decide) ?_
            refine lv_icmp_ne (tgt := 57) E.1.1 E.1.2.1 dX7_has_49 (by decide) (fun c_49 => ?_) (fun c_49 => ?_)
            · skip
              refine lv_bipush (v := 96) E.1.1 E.1.2.1 dX7_has_57 (by decide) ?_
              refine lv_iload E.1.1 E.1.2.1 dX7_has_59 (lv_at hl 0 rfl) ?_
              refine lv_iadd E.1.1 E.1.2.1 dX7_has_61 ?_
              refine lv_cst (v := 105) (by decide) ?_
              refine lv_icmp_eq (tgt := 67) E.1.1 E.1.2.1 dX7_has_62 (by decide) (fun c_62_r1 => ?_) (fun c_62_r1 => ?_)
              · skip
                refine lv_lload E.1.1 E.1.2.1 dX7_has_67 (lv_at hl 2 rfl) ?_
                refine lv_ldc2 (v := 100) E.1.1 E.1.2.1 E.1.2.2.2.1 (E.1.2.2.2.2 _ mj_X7_76) dX7_has_69 ?_
                refine lv_ldiv E.1.1 E.1.2.1 dX7_has_72 (by decide) ?_
                refine lv_cstl (v := 8250218) (by decide) ?_
                refine lv_lstore (lv' := [(5, .long (8250218 : Int64)), (8, .int (9 : Int32)), (7, .int (4 : Int32)), (0, .ref qm), (1, .int (7 : Int32)), (2, .long (82502180904 : Int64)), (4, .int (6 : Int32))]) E.1.1 E.1.2.1 dX7_has_73 hl (by decide) rfl (fun ls hl => ?_)
                refine lv_iinc (v := (3 : Int32)) (lv' := [(7, .int (3 : Int32)), (5, .long (8250218 : Int64)), (8, .int (9 : Int32)), (0, .ref qm), (1, .int (7 : Int32)), (2, .long (82502180904 : Int64)), (4, .int (6 : Int32))]) E.1.1 E.1.2.1 dX7_has_75 hl (k := 2) rfl (by decide) (by decide) rfl (fun ls hl => ?_)
                refine lv_goto (tgt := 22) E.1.1 E.1.2.1 dX7_has_78 (by decide) ?_
                refine lv_iload E.1.1 E.1.2.1 dX7_has_22 (lv_at hl 0 rfl) ?_
                refine lv_if_lt (tgt := 81) E.1.1 E.1.2.1 dX7_has_24 (by decide) (fun c_24 => ?_) (fun c_24 => ?_)
                · exact absurd c_24 (by decide)
                · skip
                  refine lv_lload E.1.1 E.1.2.1 dX7_has_27 (lv_at hl 1 rfl) ?_
                  refine lv_ldc2 (v := 100) E.1.1 E.1.2.1 E.1.2.2.2.1 (E.1.2.2.2.2 _ mj_X7_76) dX7_has_29 ?_
                  refine lv_lrem E.1.1 E.1.2.1 dX7_has_32 (by decide) ?_
                  refine lv_cstl (v := 18) (by decide) ?_
                  refine lv_l2i (v := 18) E.1.1 E.1.2.1 dX7_has_33 (by decide) ?_
                  refine lv_istore (lv' := [(8, .int (18 : Int32)), (7, .int (3 : Int32)), (5, .long (8250218 : Int64)), (0, .ref qm), (1, .int (7 : Int32)), (2, .long (82502180904 : Int64)), (4, .int (6 : Int32))]) E.1.1 E.1.2.1 dX7_has_34 hl (by decide) rfl (fun ls hl => ?_)
                  refine lv_aload_n E.1.1 E.1.2.1 dX7_has_36 rfl (lv_at hl 3 rfl) ?_
                  refine gf_X7_53 E Y 0 rfl rfl dX7_has_37 ?_
                  refine lv_iload_n E.1.1 E.1.2.1 dX7_has_40 rfl (lv_at hl 4 rfl) ?_
                  refine lv_iload E.1.1 E.1.2.1 dX7_has_41 (lv_at hl 1 rfl) ?_
                  refine lv_iadd E.1.1 E.1.2.1 dX7_has_43 ?_
                  refine lv_cst (v := 10) (by decide) ?_
                  refine r_ial E Y 7 rfl (10) (by decide) (by unfold vp_in; decide) dX7_has_44 ?_
                  refine lv_iload E.1.1 E.1.2.1 dX7_has_45 (lv_at hl 0 rfl) ?_
                  refine lv_bipush (v := 27) E.1.1 E.1.2.1 dX7_has_47 (by decide) ?_
                  refine lv_icmp_ne (tgt := 57) E.1.1 E.1.2.1 dX7_has_49 (by decide) (fun c_49 => ?_) (fun c_49 => ?_)
                  · skip
                    refine lv_bipush (v := 96) E.1.1 E.1.2.1 dX7_has_57 (by decide) ?_
                    refine lv_iload E.1.1 E.1.2.1 dX7_has_59 (lv_at hl 0 rfl) ?_
                    refine lv_iadd E.1.1 E.1.2.1 dX7_has_61 ?_
                    refine lv_cst (v := 114) (by decide) ?_
                    refine lv_icmp_eq (tgt := 67) E.1.1 E.1.2.1 dX7_has_62 (by decide) (fun c_62_r2 => ?_) (fun c_62_r2 => ?_)
                    · skip
                      refine lv_lload E.1.1 E.1.2.1 dX7_has_67 (lv_at hl 2 rfl) ?_
                      refine lv_ldc2 (v := 100) E.1.1 E.1.2.1 E.1.2.2.2.1 (E.1.2.2.2.2 _ mj_X7_76) dX7_has_69 ?_
                      refine lv_ldiv E.1.1 E.1.2.1 dX7_has_72 (by decide) ?_
                      refine lv_cstl (v := 82502) (by decide) ?_
                      refine lv_lstore (lv' := [(5, .long (82502 : Int64)), (8, .int (18 : Int32)), (7, .int (3 : Int32)), (0, .ref qm), (1, .int (7 : Int32)), (2, .long (82502180904 : Int64)), (4, .int (6 : Int32))]) E.1.1 E.1.2.1 dX7_has_73 hl (by decide) rfl (fun ls hl => ?_)
                      refine lv_iinc (v := (2 : Int32)) (lv' := [(7, .int (2 : Int32)), (5, .long (82502 : Int64)), (8, .int (18 : Int32)), (0, .ref qm), (1, .int (7 : Int32)), (2, .long (82502180904 : Int64)), (4, .int (6 : Int32))]) E.1.1 E.1.2.1 dX7_has_75 hl (k := 2) rfl (by decide) (by decide) rfl (fun ls hl => ?_)
                      refine lv_goto (tgt := 22) E.1.1 E.1.2.1 dX7_has_78 (by decide) ?_
                      refine lv_iload E.1.1 E.1.2.1 dX7_has_22 (lv_at hl 0 rfl) ?_
                      refine lv_if_lt (tgt := 81) E.1.1 E.1.2.1 dX7_has_24 (by decide) (fun c_24 => ?_) (fun c_24 => ?_)
                      · exact absurd c_24 (by decide)
                      · skip
                        refine lv_lload E.1.1 E.1.2.1 dX7_has_27 (lv_at hl 1 rfl) ?_
                        refine lv_ldc2 (v := 100) E.1.1 E.1.2.1 E.1.2.2.2.1 (E.1.2.2.2.2 _ mj_X7_76) dX7_has_29 ?_
                        refine lv_lrem E.1.1 E.1.2.1 dX7_has_32 (by decide) ?_
                        refine lv_cstl (v := 2) (by decide) ?_
                        refine lv_l2i (v := 2) E.1.1 E.1.2.1 dX7_has_33 (by decide) ?_
                        refine lv_istore (lv' := [(8, .int (2 : Int32)), (7, .int (2 : Int32)), (5, .long (82502 : Int64)), (0, .ref qm), (1, .int (7 : Int32)), (2, .long (82502180904 : Int64)), (4, .int (6 : Int32))]) E.1.1 E.1.2.1 dX7_has_34 hl (by decide) rfl (fun ls hl => ?_)
                        refine lv_aload_n E.1.1 E.1.2.1 dX7_has_36 rfl (lv_at hl 3 rfl) ?_
                        refine gf_X7_53 E Y 0 rfl rfl dX7_has_37 ?_
                        refine lv_iload_n E.1.1 E.1.2.1 dX7_has_40 rfl (lv_at hl 4 rfl) ?_
                        refine lv_iload E.1.1 E.1.2.1 dX7_has_41 (lv_at hl 1 rfl) ?_
                        refine lv_iadd E.1.1 E.1.2.1 dX7_has_43 ?_
                        refine lv_cst (v := 9) (by decide) ?_
                        refine r_ial E Y 7 rfl (9) (by decide) (by unfold vp_in; decide) dX7_has_44 ?_
                        refine lv_iload E.1.1 E.1.2.1 dX7_has_45 (lv_at hl 0 rfl) ?_
                        refine lv_bipush (v := 27) E.1.1 E.1.2.1 dX7_has_47 (by decide) ?_
                        refine lv_icmp_ne (tgt := 57) E.1.1 E.1.2.1 dX7_has_49 (by decide) (fun c_49 => ?_) (fun c_49 => ?_)
                        · skip
                          refine lv_bipush (v := 96) E.1.1 E.1.2.1 dX7_has_57 (by decide) ?_
                          refine lv_iload E.1.1 E.1.2.1 dX7_has_59 (lv_at hl 0 rfl) ?_
                          refine lv_iadd E.1.1 E.1.2.1 dX7_has_61 ?_
                          refine lv_cst (v := 98) (by decide) ?_
                          refine lv_icmp_eq (tgt := 67) E.1.1 E.1.2.1 dX7_has_62 (by decide) (fun c_62_r3 => ?_) (fun c_62_r3 => ?_)
                          · skip
                            refine lv_lload E.1.1 E.1.2.1 dX7_has_67 (lv_at hl 2 rfl) ?_
                            refine lv_ldc2 (v := 100) E.1.1 E.1.2.1 E.1.2.2.2.1 (E.1.2.2.2.2 _ mj_X7_76) dX7_has_69 ?_
                            refine lv_ldiv E.1.1 E.1.2.1 dX7_has_72 (by decide) ?_
                            refine lv_cstl (v := 825) (by decide) ?_
                            refine lv_lstore (lv' := [(5, .long (825 : Int64)), (8, .int (2 : Int32)), (7, .int (2 : Int32)), (0, .ref qm), (1, .int (7 : Int32)), (2, .long (82502180904 : Int64)), (4, .int (6 : Int32))]) E.1.1 E.1.2.1 dX7_has_73 hl (by decide) rfl (fun ls hl => ?_)
                            refine lv_iinc (v := (1 : Int32)) (lv' := [(7, .int (1 : Int32)), (5, .long (825 : Int64)), (8, .int (2 : Int32)), (0, .ref qm), (1, .int (7 : Int32)), (2, .long (82502180904 : Int64)), (4, .int (6 : Int32))]) E.1.1 E.1.2.1 dX7_has_75 hl (k := 2) rfl (by decide) (by decide) rfl (fun ls hl => ?_)
                            refine lv_goto (tgt := 22) E.1.1 E.1.2.1 dX7_has_78 (by decide) ?_
                            refine lv_iload E.1.1 E.1.2.1 dX7_has_22 (lv_at hl 0 rfl) ?_
                            refine lv_if_lt (tgt := 81) E.1.1 E.1.2.1 dX7_has_24 (by decide) (fun c_24 => ?_) (fun c_24 => ?_)
                            · exact absurd c_24 (by decide)
                            · skip
                              refine lv_lload E.1.1 E.1.2.1 dX7_has_27 (lv_at hl 1 rfl) ?_
                              refine lv_ldc2 (v := 100) E.1.1 E.1.2.1 E.1.2.2.2.1 (E.1.2.2.2.2 _ mj_X7_76) dX7_has_29 ?_
                              refine lv_lrem E.1.1 E.1.2.1 dX7_has_32 (by decide) ?_
                              refine lv_cstl (v := 25) (by decide) ?_
                              refine lv_l2i (v := 25) E.1.1 E.1.2.1 dX7_has_33 (by decide) ?_
                              refine lv_istore (lv' := [(8, .int (25 : Int32)), (7, .int (1 : Int32)), (5, .long (825 : Int64)), (0, .ref qm), (1, .int (7 : Int32)), (2, .long (82502180904 : Int64)), (4, .int (6 : Int32))]) E.1.1 E.1.2.1 dX7_has_34 hl (by decide) rfl (fun ls hl => ?_)
                              refine lv_aload_n E.1.1 E.1.2.1 dX7_has_36 rfl (lv_at hl 3 rfl) ?_
                              refine gf_X7_53 E Y 0 rfl rfl dX7_has_37 ?_
                              refine lv_iload_n E.1.1 E.1.2.1 dX7_has_40 rfl (lv_at hl 4 rfl) ?_
                              refine lv_iload E.1.1 E.1.2.1 dX7_has_41 (lv_at hl 1 rfl) ?_
                              refine lv_iadd E.1.1 E.1.2.1 dX7_has_43 ?_
                              refine lv_cst (v := 8) (by decide) ?_
                              refine r_ial E Y 7 rfl (8) (by decide) (by unfold vp_in; decide) dX7_has_44 ?_
                              refine lv_iload E.1.1 E.1.2.1 dX7_has_45 (lv_at hl 0 rfl) ?_
                              refine lv_bipush (v := 27) E.1.1 E.1.2.1 dX7_has_47 (by decide) ?_
                              refine lv_icmp_ne (tgt := 57) E.1.1 E.1.2.1 dX7_has_49 (by decide) (fun c_49 => ?_) (fun c_49 => ?_)
                              · skip
                                refine lv_bipush (v := 96) E.1.1 E.1.2.1 dX7_has_57 (by decide) ?_
                                refine lv_iload E.1.1 E.1.2.1 dX7_has_59 (lv_at hl 0 rfl) ?_
                                refine lv_iadd E.1.1 E.1.2.1 dX7_has_61 ?_
                                refine lv_cst (v := 121) (by decide) ?_
                                refine lv_icmp_eq (tgt := 67) E.1.1 E.1.2.1 dX7_has_62 (by decide) (fun c_62_r4 => ?_) (fun c_62_r4 => ?_)
                                · skip
                                  refine lv_lload E.1.1 E.1.2.1 dX7_has_67 (lv_at hl 2 rfl) ?_
                                  refine lv_ldc2 (v := 100) E.1.1 E.1.2.1 E.1.2.2.2.1 (E.1.2.2.2.2 _ mj_X7_76) dX7_has_69 ?_
                                  refine lv_ldiv E.1.1 E.1.2.1 dX7_has_72 (by decide) ?_
                                  refine lv_cstl (v := 8) (by decide) ?_
                                  refine lv_lstore (lv' := [(5, .long (8 : Int64)), (8, .int (25 : Int32)), (7, .int (1 : Int32)), (0, .ref qm), (1, .int (7 : Int32)), (2, .long (82502180904 : Int64)), (4, .int (6 : Int32))]) E.1.1 E.1.2.1 dX7_has_73 hl (by decide) rfl (fun ls hl => ?_)
                                  refine lv_iinc (v := (0 : Int32)) (lv' := [(7, .int (0 : Int32)), (5, .long (8 : Int64)), (8, .int (25 : Int32)), (0, .ref qm), (1, .int (7 : Int32)), (2, .long (82502180904 : Int64)), (4, .int (6 : Int32))]) E.1.1 E.1.2.1 dX7_has_75 hl (k := 2) rfl (by decide) (by decide) rfl (fun ls hl => ?_)
                                  refine lv_goto (tgt := 22) E.1.1 E.1.2.1 dX7_has_78 (by decide) ?_
                                  refine lv_iload E.1.1 E.1.2.1 dX7_has_22 (lv_at hl 0 rfl) ?_
                                  refine lv_if_lt (tgt := 81) E.1.1 E.1.2.1 dX7_has_24 (by decide) (fun c_24 => ?_) (fun c_24 => ?_)
                                  · exact absurd c_24 (by decide)
                                  · skip
                                    refine lv_lload E.1.1 E.1.2.1 dX7_has_27 (lv_at hl 1 rfl) ?_
                                    refine lv_ldc2 (v := 100) E.1.1 E.1.2.1 E.1.2.2.2.1 (E.1.2.2.2.2 _ mj_X7_76) dX7_has_29 ?_
                                    refine lv_lrem E.1.1 E.1.2.1 dX7_has_32 (by decide) ?_
                                    refine lv_cstl (v := 8) (by decide) ?_
                                    refine lv_l2i (v := 8) E.1.1 E.1.2.1 dX7_has_33 (by decide) ?_
                                    refine lv_istore (lv' := [(8, .int (8 : Int32)), (7, .int (0 : Int32)), (5, .long (8 : Int64)), (0, .ref qm), (1, .int (7 : Int32)), (2, .long (82502180904 : Int64)), (4, .int (6 : Int32))]) E.1.1 E.1.2.1 dX7_has_34 hl (by decide) rfl (fun ls hl => ?_)
                                    refine lv_aload_n E.1.1 E.1.2.1 dX7_has_36 rfl (lv_at hl 3 rfl) ?_
                                    refine gf_X7_53 E Y 0 rfl rfl dX7_has_37 ?_
                                    refine lv_iload_n E.1.1 E.1.2.1 dX7_has_40 rfl (lv_at hl 4 rfl) ?_
                                    refine lv_iload E.1.1 E.1.2.1 dX7_has_41 (lv_at hl 1 rfl) ?_
                                    refine lv_iadd E.1.1 E.1.2.1 dX7_has_43 ?_
                                    refine lv_cst (v := 7) (by decide) ?_
                                    refine r_ial E Y 7 rfl (7) (by decide) (by unfold vp_in; decide) dX7_has_44 ?_
                                    refine lv_iload E.1.1 E.1.2.1 dX7_has_45 (lv_at hl 0 rfl) ?_
                                    refine lv_bipush (v := 27) E.1.1 E.1.2.1 dX7_has_47 (by decide) ?_
                                    refine lv_icmp_ne (tgt := 57) E.1.1 E.1.2.1 dX7_has_49 (by decide) (fun c_49 => ?_) (fun c_49 => ?_)
                                    · skip
                                      refine lv_bipush (v := 96) E.1.1 E.1.2.1 dX7_has_57 (by decide) ?_
                                      refine lv_iload E.1.1 E.1.2.1 dX7_has_59 (lv_at hl 0 rfl) ?_
                                      refine lv_iadd E.1.1 E.1.2.1 dX7_has_61 ?_
                                      refine lv_cst (v := 104) (by decide) ?_
                                      refine lv_icmp_eq (tgt := 67) E.1.1 E.1.2.1 dX7_has_62 (by decide) (fun c_62_r5 => ?_) (fun c_62_r5 => ?_)
                                      · skip
                                        refine lv_lload E.1.1 E.1.2.1 dX7_has_67 (lv_at hl 2 rfl) ?_
                                        refine lv_ldc2 (v := 100) E.1.1 E.1.2.1 E.1.2.2.2.1 (E.1.2.2.2.2 _ mj_X7_76) dX7_has_69 ?_
                                        refine lv_ldiv E.1.1 E.1.2.1 dX7_has_72 (by decide) ?_
                                        refine lv_cstl (v := 0) (by decide) ?_
                                        refine lv_lstore (lv' := [(5, .long (0 : Int64)), (8, .int (8 : Int32)), (7, .int (0 : Int32)), (0, .ref qm), (1, .int (7 : Int32)), (2, .long (82502180904 : Int64)), (4, .int (6 : Int32))]) E.1.1 E.1.2.1 dX7_has_73 hl (by decide) rfl (fun ls hl => ?_)
                                        refine lv_iinc (v := (-1 : Int32)) (lv' := [(7, .int (-1 : Int32)), (5, .long (0 : Int64)), (8, .int (8 : Int32)), (0, .ref qm), (1, .int (7 : Int32)), (2, .long (82502180904 : Int64)), (4, .int (6 : Int32))]) E.1.1 E.1.2.1 dX7_has_75 hl (k := 2) rfl (by decide) (by decide) rfl (fun ls hl => ?_)
                                        refine lv_goto (tgt := 22) E.1.1 E.1.2.1 dX7_has_78 (by decide) ?_
                                        refine lv_iload E.1.1 E.1.2.1 dX7_has_22 (lv_at hl 0 rfl) ?_
                                        refine lv_if_lt (tgt := 81) E.1.1 E.1.2.1 dX7_has_24 (by decide) (fun c_24 => ?_) (fun c_24 => ?_)
                                        · skip
                                          refine lv_iconst (v := 1) E.1.1 E.1.2.1 dX7_has_81 (by decide) ?_
                                          have e9 : (f_X7_has_hybrid y) = (1 : Int32) := (if_pos c_8).trans ((if_pos c_62).trans ((if_pos c_62_r1).trans ((if_pos c_62_r2).trans ((if_pos c_62_r3).trans ((if_pos c_62_r4).trans ((if_pos c_62_r5).trans (rfl)))))))
                                          exact r_zret E Y hr hk (1 : Int32) rfl () (e9.symm) rfl ⟨Nat.le_of_ble_eq_true rfl, Nat.le_of_ble_eq_true rfl⟩ dX7_has_82
                                        · exact absurd (by decide) c_24
                                      · skip
                                        refine lv_iconst (v := 0) E.1.1 E.1.2.1 dX7_has_65 (by decide) ?_
                                        have e9 : (f_X7_has_hybrid y) = (0 : Int32) := (if_pos c_8).trans ((if_pos c_62).trans ((if_pos c_62_r1).trans ((if_pos c_62_r2).trans ((if_pos c_62_r3).trans ((if_pos c_62_r4).trans ((if_neg c_62_r5).trans (rfl)))))))
                                        exact r_zret E Y hr hk (0 : Int32) rfl () (e9.symm) rfl ⟨Nat.le_of_ble_eq_true rfl, Nat.le_of_ble_eq_true rfl⟩ dX7_has_66
                                    · exact absurd c_49 (by decide)
                                · skip
                                  refine lv_iconst (v := 0) E.1.1 E.1.2.1 dX7_has_65 (by decide) ?_
                                  have e9 : (f_X7_has_hybrid y) = (0 : Int32) := (if_pos c_8).trans ((if_pos c_62).trans ((if_pos c_62_r1).trans ((if_pos c_62_r2).trans ((if_pos c_62_r3).trans ((if_neg c_62_r4).trans (rfl))))))
                                  exact r_zret E Y hr hk (0 : Int32) rfl () (e9.symm) rfl ⟨Nat.le_of_ble_eq_true rfl, Nat.le_of_ble_eq_true rfl⟩ dX7_has_66
                              · exact absurd c_49 (by decide)
                          · skip
                            refine lv_iconst (v := 0) E.1.1 E.1.2.1 dX7_has_65 (by decide) ?_
                            have e9 : (f_X7_has_hybrid y) = (0 : Int32) := (if_pos c_8).trans ((if_pos c_62).trans ((if_pos c_62_r1).trans ((if_pos c_62_r2).trans ((if_neg c_62_r3).trans (rfl)))))
                            exact r_zret E Y hr hk (0 : Int32) rfl () (e9.symm) rfl ⟨Nat.le_of_ble_eq_true rfl, Nat.le_of_ble_eq_true rfl⟩ dX7_has_66
                        · exact absurd c_49 (by decide)
                    · skip
                      refine lv_iconst (v := 0) E.1.1 E.1.2.1 dX7_has_65 (by decide) ?_
                      have e9 : (f_X7_has_hybrid y) = (0 : Int32) := (if_pos c_8).trans ((if_pos c_62).trans ((if_pos c_62_r1).trans ((if_neg c_62_r2).trans (rfl))))
                      exact r_zret E Y hr hk (0 : Int32) rfl () (e9.symm) rfl ⟨Nat.le_of_ble_eq_true rfl, Nat.le_of_ble_eq_true rfl⟩ dX7_has_66
                  · exact absurd c_49 (by decide)
              · skip
                refine lv_iconst (v := 0) E.1.1 E.1.2.1 dX7_has_65 (by decide) ?_
                have e9 : (f_X7_has_hybrid y) = (0 : Int32) := (if_pos c_8).trans ((if_pos c_62).trans ((if_neg c_62_r1).trans (rfl)))
                exact r_zret E Y hr hk (0 : Int32) rfl () (e9.symm) rfl ⟨Nat.le_of_ble_eq_true rfl, Nat.le_of_ble_eq_true rfl⟩ dX7_has_66
            · exact absurd c_49 (by decide)
        · skip
          refine lv_iconst (v := 0) E.1.1 E.1.2.1 dX7_has_65 (by decide) ?_
          have e9 : (f_X7_has_hybrid y) = (0 : Int32) := (if_pos c_8).trans ((if_neg c_62).trans (rfl))
          exact r_zret E Y hr hk (0 : Int32) rfl () (e9.symm) rfl ⟨Nat.le_of_ble_eq_true rfl, Nat.le_of_ble_eq_true rfl⟩ dX7_has_66
      · exact absurd c_49 (by decide)
  · skip
    refine lv_iconst (v := 0) E.1.1 E.1.2.1 dX7_has_11 (by decide) ?_
    have e9 : (f_X7_has_hybrid y) = (0 : Int32) := (if_neg c_8).trans (rfl)
    exact r_zret E Y hr hk (0 : Int32) rfl () (e9.symm) rfl ⟨Nat.le_of_ble_eq_true rfl, Nat.le_of_ble_eq_true rfl⟩ dX7_has_12

def f_X7_isDigit (y : Ky) (p0 : Int32) : Int32 := if (y.2 (p0.toNatClampNeg)) < (48 : Int32) then (0 : Int32) else (if (57 : Int32) < (y.2 (p0.toNatClampNeg)) then (0 : Int32) else (1 : Int32))
set_option maxRecDepth 100000 in
set_option maxHeartbeats 4000000 in
theorem c_X7_isDigit {l : Launch} {D : va_G} {cI cB : ClassId} (qm mb ma me mr mn ms mk : Nat) (k : Cf) (v : Fn) (a : Fn) (y : Ky) (p0 : Int32) (hd : vp_in p0 16) : CI l X0 D cI cB yX7_isDigit cX7_isDigit 2 (some .boolean) 0 0 0 0 [.ref qm, .int p0] (wM cI qm mb ma me mr mn ms mk k v a y) (fun (r : Int32) (_ : Unit) => r = (f_X7_isDigit y p0)) (fun _ => (wM cI qm mb ma me mr mn ms mk k v a y)) := by
  refine CI.of (by decide) (Nat.le_of_ble_eq_true rfl) ?_
  intro p e s m below meth c A ls E hr hk hin hA hAA hX Y hl
  have E : EE p c cX7_isDigit 2 s _ m RX7 D cI cB := E
  have hl : lv_has ls 2 [(0, .ref qm), (1, .int p0)] := hl
  refine lv_aload_n E.1.1 E.1.2.1 dX7_isDigit_0 rfl (lv_at hl 0 rfl) ?_
  refine gf_X7_53 E Y 0 rfl rfl dX7_isDigit_1 ?_
  refine lv_iload_n E.1.1 E.1.2.1 dX7_isDigit_4 rfl (lv_at hl 1 rfl) ?_
  refine r_ial E Y 7 rfl (p0.toNatClampNeg) rfl hd dX7_isDigit_5 ?_
  refine lv_bipush (v := 48) E.1.1 E.1.2.1 dX7_isDigit_6 (by decide) ?_
  refine lv_icmp_lt (tgt := 26) E.1.1 E.1.2.1 dX7_isDigit_8 (by decide) (fun c_8 => ?_) (fun c_8 => ?_)
  · skip
    refine lv_iconst (v := 0) E.1.1 E.1.2.1 dX7_isDigit_26 (by decide) ?_
    have e9 : (f_X7_isDigit y p0) = (0 : Int32) := (if_pos c_8).trans (rfl)
    exact r_zret E Y hr hk (0 : Int32) rfl () (e9.symm) rfl ⟨Nat.le_of_ble_eq_true rfl, Nat.le_of_ble_eq_true rfl⟩ dX7_isDigit_27
  · skip
    refine lv_aload_n E.1.1 E.1.2.1 dX7_isDigit_11 rfl (lv_at hl 0 rfl) ?_
    refine gf_X7_53 E Y 0 rfl rfl dX7_isDigit_12 ?_
    refine lv_iload_n E.1.1 E.1.2.1 dX7_isDigit_15 rfl (lv_at hl 1 rfl) ?_
    refine r_ial E Y 7 rfl (p0.toNatClampNeg) rfl hd dX7_isDigit_16 ?_
    refine lv_bipush (v := 57) E.1.1 E.1.2.1 dX7_isDigit_17 (by decide) ?_
    refine lv_icmp_gt (tgt := 26) E.1.1 E.1.2.1 dX7_isDigit_19 (by decide) (fun c_19 => ?_) (fun c_19 => ?_)
    · skip
      refine lv_iconst (v := 0) E.1.1 E.1.2.1 dX7_isDigit_26 (by decide) ?_
      have e9 : (f_X7_isDigit y p0) = (0 : Int32) := (if_neg c_8).trans ((if_pos c_19).trans (rfl))
      exact r_zret E Y hr hk (0 : Int32) rfl () (e9.symm) rfl ⟨Nat.le_of_ble_eq_true rfl, Nat.le_of_ble_eq_true rfl⟩ dX7_isDigit_27
    · skip
      refine lv_iconst (v := 1) E.1.1 E.1.2.1 dX7_isDigit_22 (by decide) ?_
      refine lv_goto (tgt := 27) E.1.1 E.1.2.1 dX7_isDigit_23 (by decide) ?_
      have e9 : (f_X7_isDigit y p0) = (1 : Int32) := (if_neg c_8).trans ((if_neg c_19).trans (rfl))
      exact r_zret E Y hr hk (1 : Int32) rfl () (e9.symm) rfl ⟨Nat.le_of_ble_eq_true rfl, Nat.le_of_ble_eq_true rfl⟩ dX7_isDigit_27

theorem nf_in {t c : Int32} (h : btw t 0 16) (hc : btw c 0 15) (h1 : ¬ t - c < 1) : vp_in (t - 1) 16 := by
  have a1 := h.1
  have a2 := h.2
  have a3 := hc.1
  have a4 := hc.2
  rw [fa_lt, i32_1, fb_subI (by omega) (by omega)] at h1
  rw [vp_in_iff, fb_subI (by rw [i32_1]; omega) (by rw [i32_1]; omega), i32_1]
  omega

def f_X7_numberFrom4 (y : Ky) : Int32 := if ((y.1 1) - (4 : Int32)) < (1 : Int32) then (-6 : Int32) else (if (2 : Int32) < ((y.1 1) - (4 : Int32)) then (-6 : Int32) else (if (f_X7_isDigit y (4 : Int32)) = 0 then (-6 : Int32) else (if (f_X7_isDigit y ((y.1 1) - (1 : Int32))) = 0 then (-6 : Int32) else (if ((y.1 1) - (4 : Int32)) = (1 : Int32) then ((y.2 (4)) - (48 : Int32)) else ((((10 : Int32) * ((y.2 (4)) - (48 : Int32))) + (y.2 (5))) - (48 : Int32))))))
set_option maxRecDepth 100000 in
set_option maxHeartbeats 4000000 in
theorem c_X7_numberFrom4 {l : Launch} {D : va_G} {cI cB : ClassId} (qm mb ma me mr mn ms mk : Nat) (k : Cf) (v : Fn) (a : Fn) (y : Ky) (yO : btw (y.1 1) 0 16) : CI l X0 D cI cB yX7_numberFrom cX7_numberFrom 3 (some .int) 1 21 0 0 [.ref qm, .int (4 : Int32)] (wM cI qm mb ma me mr mn ms mk k v a y) (fun (r : Int32) (_ : Unit) => r = (f_X7_numberFrom4 y)) (fun _ => (wM cI qm mb ma me mr mn ms mk k v a y)) := by
  refine CI.of (by decide) (Nat.le_of_ble_eq_true rfl) ?_
  intro p e s m below meth c A ls E hr hk hin hA hAA hX Y hl
  have E : EE p c cX7_numberFrom 3 s _ m RX7 D cI cB := E
  have hl : lv_has ls 3 [(0, .ref qm), (1, .int (4 : Int32))] := hl
  refine lv_aload_n E.1.1 E.1.2.1 dX7_numberFrom_0 rfl (lv_at hl 0 rfl) ?_
  refine gf_X7_73 E Y 0 rfl rfl dX7_numberFrom_1 ?_
  refine lv_iload_n E.1.1 E.1.2.1 dX7_numberFrom_4 rfl (lv_at hl 1 rfl) ?_
  refine lv_isub E.1.1 E.1.2.1 dX7_numberFrom_5 ?_
  refine lv_istore_n (lv' := [(2, .int ((y.1 1) - (4 : Int32))), (0, .ref qm), (1, .int (4 : Int32))]) E.1.1 E.1.2.1 dX7_numberFrom_6 rfl hl (by decide) rfl (fun ls hl => ?_)
  refine lv_iload_n E.1.1 E.1.2.1 dX7_numberFrom_7 rfl (lv_at hl 0 rfl) ?_
  refine lv_iconst (v := 1) E.1.1 E.1.2.1 dX7_numberFrom_8 (by decide) ?_
  refine lv_icmp_lt (tgt := 38) E.1.1 E.1.2.1 dX7_numberFrom_9 (by decide) (fun c_9 => ?_) (fun c_9 => ?_)
  · skip
    refine lv_bipush (v := (-6)) E.1.1 E.1.2.1 dX7_numberFrom_38 (by decide) ?_
    have e9 : (f_X7_numberFrom4 y) = (-6 : Int32) := (if_pos c_9).trans (rfl)
    exact r_iret E Y hr hk (-6 : Int32) () (e9.symm) rfl ⟨Nat.le_of_ble_eq_true rfl, Nat.le_of_ble_eq_true rfl⟩ dX7_numberFrom_40
  · skip
    refine lv_iload_n E.1.1 E.1.2.1 dX7_numberFrom_12 rfl (lv_at hl 0 rfl) ?_
    refine lv_iconst (v := 2) E.1.1 E.1.2.1 dX7_numberFrom_13 (by decide) ?_
    refine lv_icmp_gt (tgt := 38) E.1.1 E.1.2.1 dX7_numberFrom_14 (by decide) (fun c_14 => ?_) (fun c_14 => ?_)
    · skip
      refine lv_bipush (v := (-6)) E.1.1 E.1.2.1 dX7_numberFrom_38 (by decide) ?_
      have e9 : (f_X7_numberFrom4 y) = (-6 : Int32) := (if_neg c_9).trans ((if_pos c_14).trans (rfl))
      exact r_iret E Y hr hk (-6 : Int32) () (e9.symm) rfl ⟨Nat.le_of_ble_eq_true rfl, Nat.le_of_ble_eq_true rfl⟩ dX7_numberFrom_40
    · skip
      refine lv_aload_n E.1.1 E.1.2.1 dX7_numberFrom_17 rfl (lv_at hl 1 rfl) ?_
      refine lv_iload_n E.1.1 E.1.2.1 dX7_numberFrom_18 rfl (lv_at hl 2 rfl) ?_
      refine r_Vi (wr := []) (w2 := fun _ => [(qm, .inr (9, [.int (k.1 0), .int (k.1 1), .ref ma, .int (k.1 2), .ref mb, .int (k.1 3), .ref me, .ref mr, .int (k.1 4), .int (k.1 5), .int (k.1 6), .int (k.1 7), .int (k.1 8), .int (k.1 9), .int (k.1 10), .ref mn, .ref ms, .int (y.1 0), .ref mk, .int (y.1 1)])), (mb, .inl (cI, 5, .inl k.2.1)), (ma, .inl (cI, 30, .inl k.2.2.1)), (me, .inl (cI, 12, .inl k.2.2.2.1)), (mr, .inl (cI, 12, .inl k.2.2.2.2)), (mn, .inl (cI, 52, .inl v)), (ms, .inl (cI, 52, .inl a)), (mk, .inl (cI, 16, .inl y.2))]) E Y hA hl.1 (c_X7_isDigit qm mb ma me mr mn ms mk k v a y (4 : Int32) (by unfold vp_in; decide)) lk_X7_78 X0b (fun _ _ _ => trivial) [0, 1, 2, 3, 4, 5, 6, 7] [] [0, 1, 2, 3, 4, 5, 6, 7] rfl rfl (by decide) (fun _ => rfl) 0 rfl rfl ⟨Nat.le_of_ble_eq_true rfl, Nat.le_of_ble_eq_true rfl⟩ ⟨Nat.le_of_ble_eq_true rfl, Nat.le_of_ble_eq_true rfl⟩ rfl rfl (Nat.le_of_ble_eq_true rfl) dX7_numberFrom_19 (fun r u H locs hp Y => ?_)
      subst hp
      refine lv_if_eq (tgt := 38) E.1.1 E.1.2.1 dX7_numberFrom_22 (by decide) (fun c_22 => ?_) (fun c_22 => ?_)
      · skip
        refine lv_bipush (v := (-6)) E.1.1 E.1.2.1 dX7_numberFrom_38 (by decide) ?_
        have e9 : (f_X7_numberFrom4 y) = (-6 : Int32) := (if_neg c_9).trans ((if_neg c_14).trans ((if_pos c_22).trans (rfl)))
        exact r_iret E Y hr hk (-6 : Int32) () (e9.symm) rfl ⟨Nat.le_of_ble_eq_true rfl, Nat.le_of_ble_eq_true rfl⟩ dX7_numberFrom_40
      · skip
        refine lv_aload_n E.1.1 E.1.2.1 dX7_numberFrom_25 rfl (lv_at hl 1 rfl) ?_
        refine lv_aload_n E.1.1 E.1.2.1 dX7_numberFrom_26 rfl (lv_at hl 1 rfl) ?_
        refine gf_X7_73 E Y 0 rfl rfl dX7_numberFrom_27 ?_
        refine lv_iconst (v := 1) E.1.1 E.1.2.1 dX7_numberFrom_30 (by decide) ?_
        refine lv_isub E.1.1 E.1.2.1 dX7_numberFrom_31 ?_
        refine r_Vi (wr := []) (w2 := fun _ => [(qm, .inr (9, [.int (k.1 0), .int (k.1 1), .ref ma, .int (k.1 2), .ref mb, .int (k.1 3), .ref me, .ref mr, .int (k.1 4), .int (k.1 5), .int (k.1 6), .int (k.1 7), .int (k.1 8), .int (k.1 9), .int (k.1 10), .ref mn, .ref ms, .int (y.1 0), .ref mk, .int (y.1 1)])), (mb, .inl (cI, 5, .inl k.2.1)), (ma, .inl (cI, 30, .inl k.2.2.1)), (me, .inl (cI, 12, .inl k.2.2.2.1)), (mr, .inl (cI, 12, .inl k.2.2.2.2)), (mn, .inl (cI, 52, .inl v)), (ms, .inl (cI, 52, .inl a)), (mk, .inl (cI, 16, .inl y.2))]) E Y hA hl.1 (c_X7_isDigit qm mb ma me mr mn ms mk k v a y ((y.1 1) - (1 : Int32)) (nf_in (c := 4) yO ⟨by decide, by decide⟩ c_9)) lk_X7_78 X0b (fun _ _ _ => trivial) [0, 1, 2, 3, 4, 5, 6, 7] [] [0, 1, 2, 3, 4, 5, 6, 7] rfl rfl (by decide) (fun _ => rfl) 0 rfl rfl ⟨Nat.le_of_ble_eq_true rfl, Nat.le_of_ble_eq_true rfl⟩ ⟨Nat.le_of_ble_eq_true rfl, Nat.le_of_ble_eq_true rfl⟩ rfl rfl (Nat.le_of_ble_eq_true rfl) dX7_numberFrom_32 (fun r u H locs hp Y => ?_)
        subst hp
        refine lv_if_ne (tgt := 41) E.1.1 E.1.2.1 dX7_numberFrom_35 (by decide) (fun c_35 => ?_) (fun c_35 => ?_)
        · skip
          refine lv_iload_n E.1.1 E.1.2.1 dX7_numberFrom_41 rfl (lv_at hl 0 rfl) ?_
          refine lv_iconst (v := 1) E.1.1 E.1.2.1 dX7_numberFrom_42 (by decide) ?_
          refine lv_icmp_ne (tgt := 58) E.1.1 E.1.2.1 dX7_numberFrom_43 (by decide) (fun c_43 => ?_) (fun c_43 => ?_)
          · skip
            refine lv_bipush (v := 10) E.1.1 E.1.2.1 dX7_numberFrom_58 (by decide) ?_
            refine lv_aload_n E.1.1 E.1.2.1 dX7_numberFrom_60 rfl (lv_at hl 1 rfl) ?_
            refine gf_X7_53 E Y 0 rfl rfl dX7_numberFrom_61 ?_
            refine lv_iload_n E.1.1 E.1.2.1 dX7_numberFrom_64 rfl (lv_at hl 2 rfl) ?_
            refine r_ial E Y 7 rfl (4) (by decide) (by unfold vp_in; decide) dX7_numberFrom_65 ?_
            refine lv_bipush (v := 48) E.1.1 E.1.2.1 dX7_numberFrom_66 (by decide) ?_
            refine lv_isub E.1.1 E.1.2.1 dX7_numberFrom_68 ?_
            refine lv_imul E.1.1 E.1.2.1 dX7_numberFrom_69 ?_
            refine lv_aload_n E.1.1 E.1.2.1 dX7_numberFrom_70 rfl (lv_at hl 1 rfl) ?_
            refine gf_X7_53 E Y 0 rfl rfl dX7_numberFrom_71 ?_
            refine lv_iload_n E.1.1 E.1.2.1 dX7_numberFrom_74 rfl (lv_at hl 2 rfl) ?_
            refine lv_iconst (v := 1) E.1.1 E.1.2.1 dX7_numberFrom_75 (by decide) ?_
            refine lv_iadd E.1.1 E.1.2.1 dX7_numberFrom_76 ?_
            refine lv_cst (v := 5) (by decide) ?_
            refine r_ial E Y 7 rfl (5) (by decide) (by unfold vp_in; decide) dX7_numberFrom_77 ?_
            refine lv_iadd E.1.1 E.1.2.1 dX7_numberFrom_78 ?_
            refine lv_bipush (v := 48) E.1.1 E.1.2.1 dX7_numberFrom_79 (by decide) ?_
            refine lv_isub E.1.1 E.1.2.1 dX7_numberFrom_81 ?_
            have e9 : (f_X7_numberFrom4 y) = ((((10 : Int32) * ((y.2 (4)) - (48 : Int32))) + (y.2 (5))) - (48 : Int32)) := (if_neg c_9).trans ((if_neg c_14).trans ((if_neg c_22).trans ((if_neg c_35).trans ((if_neg c_43).trans (rfl)))))
            exact r_iret E Y hr hk ((((10 : Int32) * ((y.2 (4)) - (48 : Int32))) + (y.2 (5))) - (48 : Int32)) () (e9.symm) rfl ⟨Nat.le_of_ble_eq_true rfl, Nat.le_of_ble_eq_true rfl⟩ dX7_numberFrom_82
          · skip
            refine lv_aload_n E.1.1 E.1.2.1 dX7_numberFrom_46 rfl (lv_at hl 1 rfl) ?_
            refine gf_X7_53 E Y 0 rfl rfl dX7_numberFrom_47 ?_
            refine lv_iload_n E.1.1 E.1.2.1 dX7_numberFrom_50 rfl (lv_at hl 2 rfl) ?_
            refine r_ial E Y 7 rfl (4) (by decide) (by unfold vp_in; decide) dX7_numberFrom_51 ?_
            refine lv_bipush (v := 48) E.1.1 E.1.2.1 dX7_numberFrom_52 (by decide) ?_
            refine lv_isub E.1.1 E.1.2.1 dX7_numberFrom_54 ?_
            refine lv_goto (tgt := 82) E.1.1 E.1.2.1 dX7_numberFrom_55 (by decide) ?_
            have e9 : (f_X7_numberFrom4 y) = ((y.2 (4)) - (48 : Int32)) := (if_neg c_9).trans ((if_neg c_14).trans ((if_neg c_22).trans ((if_neg c_35).trans ((if_pos c_43).trans (rfl)))))
            exact r_iret E Y hr hk ((y.2 (4)) - (48 : Int32)) () (e9.symm) rfl ⟨Nat.le_of_ble_eq_true rfl, Nat.le_of_ble_eq_true rfl⟩ dX7_numberFrom_82
        · skip
          refine lv_bipush (v := (-6)) E.1.1 E.1.2.1 dX7_numberFrom_38 (by decide) ?_
          have e9 : (f_X7_numberFrom4 y) = (-6 : Int32) := (if_neg c_9).trans ((if_neg c_14).trans ((if_neg c_22).trans ((if_pos c_35).trans (rfl))))
          exact r_iret E Y hr hk (-6 : Int32) () (e9.symm) rfl ⟨Nat.le_of_ble_eq_true rfl, Nat.le_of_ble_eq_true rfl⟩ dX7_numberFrom_40

def f_X7_numberFrom5 (y : Ky) : Int32 := if ((y.1 1) - (5 : Int32)) < (1 : Int32) then (-6 : Int32) else (if (2 : Int32) < ((y.1 1) - (5 : Int32)) then (-6 : Int32) else (if (f_X7_isDigit y (5 : Int32)) = 0 then (-6 : Int32) else (if (f_X7_isDigit y ((y.1 1) - (1 : Int32))) = 0 then (-6 : Int32) else (if ((y.1 1) - (5 : Int32)) = (1 : Int32) then ((y.2 (5)) - (48 : Int32)) else ((((10 : Int32) * ((y.2 (5)) - (48 : Int32))) + (y.2 (6))) - (48 : Int32))))))
set_option maxRecDepth 100000 in
set_option maxHeartbeats 4000000 in
theorem c_X7_numberFrom5 {l : Launch} {D : va_G} {cI cB : ClassId} (qm mb ma me mr mn ms mk : Nat) (k : Cf) (v : Fn) (a : Fn) (y : Ky) (yO : btw (y.1 1) 0 16) : CI l X0 D cI cB yX7_numberFrom cX7_numberFrom 3 (some .int) 1 21 0 0 [.ref qm, .int (5 : Int32)] (wM cI qm mb ma me mr mn ms mk k v a y) (fun (r : Int32) (_ : Unit) => r = (f_X7_numberFrom5 y)) (fun _ => (wM cI qm mb ma me mr mn ms mk k v a y)) := by
  refine CI.of (by decide) (Nat.le_of_ble_eq_true rfl) ?_
  intro p e s m below meth c A ls E hr hk hin hA hAA hX Y hl
  have E : EE p c cX7_numberFrom 3 s _ m RX7 D cI cB := E
  have hl : lv_has ls 3 [(0, .ref qm), (1, .int (5 : Int32))] := hl
  refine lv_aload_n E.1.1 E.1.2.1 dX7_numberFrom_0 rfl (lv_at hl 0 rfl) ?_
  refine gf_X7_73 E Y 0 rfl rfl dX7_numberFrom_1 ?_
  refine lv_iload_n E.1.1 E.1.2.1 dX7_numberFrom_4 rfl (lv_at hl 1 rfl) ?_
  refine lv_isub E.1.1 E.1.2.1 dX7_numberFrom_5 ?_
  refine lv_istore_n (lv' := [(2, .int ((y.1 1) - (5 : Int32))), (0, .ref qm), (1, .int (5 : Int32))]) E.1.1 E.1.2.1 dX7_numberFrom_6 rfl hl (by decide) rfl (fun ls hl => ?_)
  refine lv_iload_n E.1.1 E.1.2.1 dX7_numberFrom_7 rfl (lv_at hl 0 rfl) ?_
  refine lv_iconst (v := 1) E.1.1 E.1.2.1 dX7_numberFrom_8 (by decide) ?_
  refine lv_icmp_lt (tgt := 38) E.1.1 E.1.2.1 dX7_numberFrom_9 (by decide) (fun c_9 => ?_) (fun c_9 => ?_)
  · skip
    refine lv_bipush (v := (-6)) E.1.1 E.1.2.1 dX7_numberFrom_38 (by decide) ?_
    have e9 : (f_X7_numberFrom5 y) = (-6 : Int32) := (if_pos c_9).trans (rfl)
    exact r_iret E Y hr hk (-6 : Int32) () (e9.symm) rfl ⟨Nat.le_of_ble_eq_true rfl, Nat.le_of_ble_eq_true rfl⟩ dX7_numberFrom_40
  · skip
    refine lv_iload_n E.1.1 E.1.2.1 dX7_numberFrom_12 rfl (lv_at hl 0 rfl) ?_
    refine lv_iconst (v := 2) E.1.1 E.1.2.1 dX7_numberFrom_13 (by decide) ?_
    refine lv_icmp_gt (tgt := 38) E.1.1 E.1.2.1 dX7_numberFrom_14 (by decide) (fun c_14 => ?_) (fun c_14 => ?_)
    · skip
      refine lv_bipush (v := (-6)) E.1.1 E.1.2.1 dX7_numberFrom_38 (by decide) ?_
      have e9 : (f_X7_numberFrom5 y) = (-6 : Int32) := (if_neg c_9).trans ((if_pos c_14).trans (rfl))
      exact r_iret E Y hr hk (-6 : Int32) () (e9.symm) rfl ⟨Nat.le_of_ble_eq_true rfl, Nat.le_of_ble_eq_true rfl⟩ dX7_numberFrom_40
    · skip
      refine lv_aload_n E.1.1 E.1.2.1 dX7_numberFrom_17 rfl (lv_at hl 1 rfl) ?_
      refine lv_iload_n E.1.1 E.1.2.1 dX7_numberFrom_18 rfl (lv_at hl 2 rfl) ?_
      refine r_Vi (wr := []) (w2 := fun _ => [(qm, .inr (9, [.int (k.1 0), .int (k.1 1), .ref ma, .int (k.1 2), .ref mb, .int (k.1 3), .ref me, .ref mr, .int (k.1 4), .int (k.1 5), .int (k.1 6), .int (k.1 7), .int (k.1 8), .int (k.1 9), .int (k.1 10), .ref mn, .ref ms, .int (y.1 0), .ref mk, .int (y.1 1)])), (mb, .inl (cI, 5, .inl k.2.1)), (ma, .inl (cI, 30, .inl k.2.2.1)), (me, .inl (cI, 12, .inl k.2.2.2.1)), (mr, .inl (cI, 12, .inl k.2.2.2.2)), (mn, .inl (cI, 52, .inl v)), (ms, .inl (cI, 52, .inl a)), (mk, .inl (cI, 16, .inl y.2))]) E Y hA hl.1 (c_X7_isDigit qm mb ma me mr mn ms mk k v a y (5 : Int32) (by unfold vp_in; decide)) lk_X7_78 X0b (fun _ _ _ => trivial) [0, 1, 2, 3, 4, 5, 6, 7] [] [0, 1, 2, 3, 4, 5, 6, 7] rfl rfl (by decide) (fun _ => rfl) 0 rfl rfl ⟨Nat.le_of_ble_eq_true rfl, Nat.le_of_ble_eq_true rfl⟩ ⟨Nat.le_of_ble_eq_true rfl, Nat.le_of_ble_eq_true rfl⟩ rfl rfl (Nat.le_of_ble_eq_true rfl) dX7_numberFrom_19 (fun r u H locs hp Y => ?_)
      subst hp
      refine lv_if_eq (tgt := 38) E.1.1 E.1.2.1 dX7_numberFrom_22 (by decide) (fun c_22 => ?_) (fun c_22 => ?_)
      · skip
        refine lv_bipush (v := (-6)) E.1.1 E.1.2.1 dX7_numberFrom_38 (by decide) ?_
        have e9 : (f_X7_numberFrom5 y) = (-6 : Int32) := (if_neg c_9).trans ((if_neg c_14).trans ((if_pos c_22).trans (rfl)))
        exact r_iret E Y hr hk (-6 : Int32) () (e9.symm) rfl ⟨Nat.le_of_ble_eq_true rfl, Nat.le_of_ble_eq_true rfl⟩ dX7_numberFrom_40
      · skip
        refine lv_aload_n E.1.1 E.1.2.1 dX7_numberFrom_25 rfl (lv_at hl 1 rfl) ?_
        refine lv_aload_n E.1.1 E.1.2.1 dX7_numberFrom_26 rfl (lv_at hl 1 rfl) ?_
        refine gf_X7_73 E Y 0 rfl rfl dX7_numberFrom_27 ?_
        refine lv_iconst (v := 1) E.1.1 E.1.2.1 dX7_numberFrom_30 (by decide) ?_
        refine lv_isub E.1.1 E.1.2.1 dX7_numberFrom_31 ?_
        refine r_Vi (wr := []) (w2 := fun _ => [(qm, .inr (9, [.int (k.1 0), .int (k.1 1), .ref ma, .int (k.1 2), .ref mb, .int (k.1 3), .ref me, .ref mr, .int (k.1 4), .int (k.1 5), .int (k.1 6), .int (k.1 7), .int (k.1 8), .int (k.1 9), .int (k.1 10), .ref mn, .ref ms, .int (y.1 0), .ref mk, .int (y.1 1)])), (mb, .inl (cI, 5, .inl k.2.1)), (ma, .inl (cI, 30, .inl k.2.2.1)), (me, .inl (cI, 12, .inl k.2.2.2.1)), (mr, .inl (cI, 12, .inl k.2.2.2.2)), (mn, .inl (cI, 52, .inl v)), (ms, .inl (cI, 52, .inl a)), (mk, .inl (cI, 16, .inl y.2))]) E Y hA hl.1 (c_X7_isDigit qm mb ma me mr mn ms mk k v a y ((y.1 1) - (1 : Int32)) (nf_in (c := 5) yO ⟨by decide, by decide⟩ c_9)) lk_X7_78 X0b (fun _ _ _ => trivial) [0, 1, 2, 3, 4, 5, 6, 7] [] [0, 1, 2, 3, 4, 5, 6, 7] rfl rfl (by decide) (fun _ => rfl) 0 rfl rfl ⟨Nat.le_of_ble_eq_true rfl, Nat.le_of_ble_eq_true rfl⟩ ⟨Nat.le_of_ble_eq_true rfl, Nat.le_of_ble_eq_true rfl⟩ rfl rfl (Nat.le_of_ble_eq_true rfl) dX7_numberFrom_32 (fun r u H locs hp Y => ?_)
        subst hp
        refine lv_if_ne (tgt := 41) E.1.1 E.1.2.1 dX7_numberFrom_35 (by decide) (fun c_35 => ?_) (fun c_35 => ?_)
        · skip
          refine lv_iload_n E.1.1 E.1.2.1 dX7_numberFrom_41 rfl (lv_at hl 0 rfl) ?_
          refine lv_iconst (v := 1) E.1.1 E.1.2.1 dX7_numberFrom_42 (by decide) ?_
          refine lv_icmp_ne (tgt := 58) E.1.1 E.1.2.1 dX7_numberFrom_43 (by decide) (fun c_43 => ?_) (fun c_43 => ?_)
          · skip
            refine lv_bipush (v := 10) E.1.1 E.1.2.1 dX7_numberFrom_58 (by decide) ?_
            refine lv_aload_n E.1.1 E.1.2.1 dX7_numberFrom_60 rfl (lv_at hl 1 rfl) ?_
            refine gf_X7_53 E Y 0 rfl rfl dX7_numberFrom_61 ?_
            refine lv_iload_n E.1.1 E.1.2.1 dX7_numberFrom_64 rfl (lv_at hl 2 rfl) ?_
            refine r_ial E Y 7 rfl (5) (by decide) (by unfold vp_in; decide) dX7_numberFrom_65 ?_
            refine lv_bipush (v := 48) E.1.1 E.1.2.1 dX7_numberFrom_66 (by decide) ?_
            refine lv_isub E.1.1 E.1.2.1 dX7_numberFrom_68 ?_
            refine lv_imul E.1.1 E.1.2.1 dX7_numberFrom_69 ?_
            refine lv_aload_n E.1.1 E.1.2.1 dX7_numberFrom_70 rfl (lv_at hl 1 rfl) ?_
            refine gf_X7_53 E Y 0 rfl rfl dX7_numberFrom_71 ?_
            refine lv_iload_n E.1.1 E.1.2.1 dX7_numberFrom_74 rfl (lv_at hl 2 rfl) ?_
            refine lv_iconst (v := 1) E.1.1 E.1.2.1 dX7_numberFrom_75 (by decide) ?_
            refine lv_iadd E.1.1 E.1.2.1 dX7_numberFrom_76 ?_
            refine lv_cst (v := 6) (by decide) ?_
            refine r_ial E Y 7 rfl (6) (by decide) (by unfold vp_in; decide) dX7_numberFrom_77 ?_
            refine lv_iadd E.1.1 E.1.2.1 dX7_numberFrom_78 ?_
            refine lv_bipush (v := 48) E.1.1 E.1.2.1 dX7_numberFrom_79 (by decide) ?_
            refine lv_isub E.1.1 E.1.2.1 dX7_numberFrom_81 ?_
            have e9 : (f_X7_numberFrom5 y) = ((((10 : Int32) * ((y.2 (5)) - (48 : Int32))) + (y.2 (6))) - (48 : Int32)) := (if_neg c_9).trans ((if_neg c_14).trans ((if_neg c_22).trans ((if_neg c_35).trans ((if_neg c_43).trans (rfl)))))
            exact r_iret E Y hr hk ((((10 : Int32) * ((y.2 (5)) - (48 : Int32))) + (y.2 (6))) - (48 : Int32)) () (e9.symm) rfl ⟨Nat.le_of_ble_eq_true rfl, Nat.le_of_ble_eq_true rfl⟩ dX7_numberFrom_82
          · skip
            refine lv_aload_n E.1.1 E.1.2.1 dX7_numberFrom_46 rfl (lv_at hl 1 rfl) ?_
            refine gf_X7_53 E Y 0 rfl rfl dX7_numberFrom_47 ?_
            refine lv_iload_n E.1.1 E.1.2.1 dX7_numberFrom_50 rfl (lv_at hl 2 rfl) ?_
            refine r_ial E Y 7 rfl (5) (by decide) (by unfold vp_in; decide) dX7_numberFrom_51 ?_
            refine lv_bipush (v := 48) E.1.1 E.1.2.1 dX7_numberFrom_52 (by decide) ?_
            refine lv_isub E.1.1 E.1.2.1 dX7_numberFrom_54 ?_
            refine lv_goto (tgt := 82) E.1.1 E.1.2.1 dX7_numberFrom_55 (by decide) ?_
            have e9 : (f_X7_numberFrom5 y) = ((y.2 (5)) - (48 : Int32)) := (if_neg c_9).trans ((if_neg c_14).trans ((if_neg c_22).trans ((if_neg c_35).trans ((if_pos c_43).trans (rfl)))))
            exact r_iret E Y hr hk ((y.2 (5)) - (48 : Int32)) () (e9.symm) rfl ⟨Nat.le_of_ble_eq_true rfl, Nat.le_of_ble_eq_true rfl⟩ dX7_numberFrom_82
        · skip
          refine lv_bipush (v := (-6)) E.1.1 E.1.2.1 dX7_numberFrom_38 (by decide) ?_
          have e9 : (f_X7_numberFrom5 y) = (-6 : Int32) := (if_neg c_9).trans ((if_neg c_14).trans ((if_neg c_22).trans ((if_pos c_35).trans (rfl))))
          exact r_iret E Y hr hk (-6 : Int32) () (e9.symm) rfl ⟨Nat.le_of_ble_eq_true rfl, Nat.le_of_ble_eq_true rfl⟩ dX7_numberFrom_40

def f_X7_setsPolicy (k : Cf) (p0 : Int32) : Int32 × Cf := if (k.1 9) = p0 then ((0 : Int32), (upd (k.1) 9 p0, k.2.1, k.2.2.1, k.2.2.2.1, k.2.2.2.2)) else ((1 : Int32), (upd (k.1) 9 p0, k.2.1, k.2.2.1, k.2.2.2.1, k.2.2.2.2))
set_option maxRecDepth 100000 in
set_option maxHeartbeats 4000000 in
theorem c_X7_setsPolicy {l : Launch} {D : va_G} {cI cB : ClassId} (qm mb ma me mr mn ms mk : Nat) (k : Cf) (v : Fn) (a : Fn) (y : Ky) (p0 : Int32) : CI l X0 D cI cB yX7_setsPolicy cX7_setsPolicy 3 (some .int) 0 0 0 0 [.ref qm, .int p0] (wM cI qm mb ma me mr mn ms mk k v a y) (fun (r : Int32) (u : Cf) => r = (f_X7_setsPolicy k p0).1 ∧ u = (f_X7_setsPolicy k p0).2) (fun u => (wM cI qm mb ma me mr mn ms mk u v a y)) := by
  refine CI.of (by decide) (Nat.le_of_ble_eq_true rfl) ?_
  intro p e s m below meth c A ls E hr hk hin hA hAA hX Y hl
  have E : EE p c cX7_setsPolicy 3 s _ m RX7 D cI cB := E
  have hl : lv_has ls 3 [(0, .ref qm), (1, .int p0)] := hl
  refine lv_aload_n E.1.1 E.1.2.1 dX7_setsPolicy_0 rfl (lv_at hl 0 rfl) ?_
  refine gf_X7_82 E Y 0 rfl rfl dX7_setsPolicy_1 ?_
  refine lv_iload_n E.1.1 E.1.2.1 dX7_setsPolicy_4 rfl (lv_at hl 1 rfl) ?_
  refine lv_icmp_ne (tgt := 12) E.1.1 E.1.2.1 dX7_setsPolicy_5 (by decide) (fun c_5 => ?_) (fun c_5 => ?_)
  · skip
    refine lv_iconst (v := 1) E.1.1 E.1.2.1 dX7_setsPolicy_12 (by decide) ?_
    refine lv_istore_n (lv' := [(2, .int (1 : Int32)), (0, .ref qm), (1, .int p0)]) E.1.1 E.1.2.1 dX7_setsPolicy_13 rfl hl (by decide) rfl (fun ls hl => ?_)
    refine lv_aload_n E.1.1 E.1.2.1 dX7_setsPolicy_14 rfl (lv_at hl 1 rfl) ?_
    refine lv_iload_n E.1.1 E.1.2.1 dX7_setsPolicy_15 rfl (lv_at hl 2 rfl) ?_
    refine pf_X7_82 (w' := [(qm, .inr (9, [.int (k.1 0), .int (k.1 1), .ref ma, .int (k.1 2), .ref mb, .int (k.1 3), .ref me, .ref mr, .int (k.1 4), .int (k.1 5), .int (k.1 6), .int (k.1 7), .int (k.1 8), .int p0, .int (k.1 10), .ref mn, .ref ms, .int (y.1 0), .ref mk, .int (y.1 1)])), (mb, .inl (cI, 5, .inl k.2.1)), (ma, .inl (cI, 30, .inl k.2.2.1)), (me, .inl (cI, 12, .inl k.2.2.2.1)), (mr, .inl (cI, 12, .inl k.2.2.2.2)), (mn, .inl (cI, 52, .inl v)), (ms, .inl (cI, 52, .inl a)), (mk, .inl (cI, 16, .inl y.2))]) E Y 0 rfl (Nat.le_of_ble_eq_true rfl) rfl dX7_setsPolicy_16 (fun H locs Y => ?_)
    refine lv_iload_n E.1.1 E.1.2.1 dX7_setsPolicy_19 rfl (lv_at hl 0 rfl) ?_
    have e9 : (f_X7_setsPolicy k p0) = ((1 : Int32), (upd (k.1) 9 p0, k.2.1, k.2.2.1, k.2.2.2.1, k.2.2.2.2)) := (if_neg c_5).trans (rfl)
    exact r_iret E Y hr hk (1 : Int32) (upd (k.1) 9 p0, k.2.1, k.2.2.1, k.2.2.2.1, k.2.2.2.2) (pr_of e9) rfl ⟨Nat.le_of_ble_eq_true rfl, Nat.le_of_ble_eq_true rfl⟩ dX7_setsPolicy_20
  · skip
    refine lv_iconst (v := 0) E.1.1 E.1.2.1 dX7_setsPolicy_8 (by decide) ?_
    refine lv_goto (tgt := 13) E.1.1 E.1.2.1 dX7_setsPolicy_9 (by decide) ?_
    refine lv_istore_n (lv' := [(2, .int (0 : Int32)), (0, .ref qm), (1, .int p0)]) E.1.1 E.1.2.1 dX7_setsPolicy_13 rfl hl (by decide) rfl (fun ls hl => ?_)
    refine lv_aload_n E.1.1 E.1.2.1 dX7_setsPolicy_14 rfl (lv_at hl 1 rfl) ?_
    refine lv_iload_n E.1.1 E.1.2.1 dX7_setsPolicy_15 rfl (lv_at hl 2 rfl) ?_
    refine pf_X7_82 (w' := [(qm, .inr (9, [.int (k.1 0), .int (k.1 1), .ref ma, .int (k.1 2), .ref mb, .int (k.1 3), .ref me, .ref mr, .int (k.1 4), .int (k.1 5), .int (k.1 6), .int (k.1 7), .int (k.1 8), .int p0, .int (k.1 10), .ref mn, .ref ms, .int (y.1 0), .ref mk, .int (y.1 1)])), (mb, .inl (cI, 5, .inl k.2.1)), (ma, .inl (cI, 30, .inl k.2.2.1)), (me, .inl (cI, 12, .inl k.2.2.2.1)), (mr, .inl (cI, 12, .inl k.2.2.2.2)), (mn, .inl (cI, 52, .inl v)), (ms, .inl (cI, 52, .inl a)), (mk, .inl (cI, 16, .inl y.2))]) E Y 0 rfl (Nat.le_of_ble_eq_true rfl) rfl dX7_setsPolicy_16 (fun H locs Y => ?_)
    refine lv_iload_n E.1.1 E.1.2.1 dX7_setsPolicy_19 rfl (lv_at hl 0 rfl) ?_
    have e9 : (f_X7_setsPolicy k p0) = ((0 : Int32), (upd (k.1) 9 p0, k.2.1, k.2.2.1, k.2.2.2.1, k.2.2.2.2)) := (if_pos c_5).trans (rfl)
    exact r_iret E Y hr hk (0 : Int32) (upd (k.1) 9 p0, k.2.1, k.2.2.1, k.2.2.2.1, k.2.2.2.2) (pr_of e9) rfl ⟨Nat.le_of_ble_eq_true rfl, Nat.le_of_ble_eq_true rfl⟩ dX7_setsPolicy_20

def f_X7_policyFrom7 (k : Cf) (y : Ky) : Int32 × Cf := if ((y.1 1) - (7 : Int32)) = (5 : Int32) then (if (f_X7_has_fixed y) = 0 then (if ((y.1 1) - (7 : Int32)) = (4 : Int32) then (if (f_X7_has_rate y) = 0 then (if ((y.1 1) - (7 : Int32)) = (6 : Int32) then (if (f_X7_has_buffer y) = 0 then (if ((y.1 1) - (7 : Int32)) = (6 : Int32) then (if (f_X7_has_hybrid y) = 0 then ((-5 : Int32), k) else (((f_X7_setsPolicy k (3 : Int32)).1), (f_X7_setsPolicy k (3 : Int32)).2)) else ((-5 : Int32), k)) else (((f_X7_setsPolicy k (2 : Int32)).1), (f_X7_setsPolicy k (2 : Int32)).2)) else (if ((y.1 1) - (7 : Int32)) = (6 : Int32) then (if (f_X7_has_hybrid y) = 0 then ((-5 : Int32), k) else (((f_X7_setsPolicy k (3 : Int32)).1), (f_X7_setsPolicy k (3 : Int32)).2)) else ((-5 : Int32), k))) else (((f_X7_setsPolicy k (1 : Int32)).1), (f_X7_setsPolicy k (1 : Int32)).2)) else (if ((y.1 1) - (7 : Int32)) = (6 : Int32) then (if (f_X7_has_buffer y) = 0 then (if ((y.1 1) - (7 : Int32)) = (6 : Int32) then (if (f_X7_has_hybrid y) = 0 then ((-5 : Int32), k) else (((f_X7_setsPolicy k (3 : Int32)).1), (f_X7_setsPolicy k (3 : Int32)).2)) else ((-5 : Int32), k)) else (((f_X7_setsPolicy k (2 : Int32)).1), (f_X7_setsPolicy k (2 : Int32)).2)) else (if ((y.1 1) - (7 : Int32)) = (6 : Int32) then (if (f_X7_has_hybrid y) = 0 then ((-5 : Int32), k) else (((f_X7_setsPolicy k (3 : Int32)).1), (f_X7_setsPolicy k (3 : Int32)).2)) else ((-5 : Int32), k)))) else (((f_X7_setsPolicy k (0 : Int32)).1), (f_X7_setsPolicy k (0 : Int32)).2)) else (if ((y.1 1) - (7 : Int32)) = (4 : Int32) then (if (f_X7_has_rate y) = 0 then (if ((y.1 1) - (7 : Int32)) = (6 : Int32) then (if (f_X7_has_buffer y) = 0 then (if ((y.1 1) - (7 : Int32)) = (6 : Int32) then (if (f_X7_has_hybrid y) = 0 then ((-5 : Int32), k) else (((f_X7_setsPolicy k (3 : Int32)).1), (f_X7_setsPolicy k (3 : Int32)).2)) else ((-5 : Int32), k)) else (((f_X7_setsPolicy k (2 : Int32)).1), (f_X7_setsPolicy k (2 : Int32)).2)) else (if ((y.1 1) - (7 : Int32)) = (6 : Int32) then (if (f_X7_has_hybrid y) = 0 then ((-5 : Int32), k) else (((f_X7_setsPolicy k (3 : Int32)).1), (f_X7_setsPolicy k (3 : Int32)).2)) else ((-5 : Int32), k))) else (((f_X7_setsPolicy k (1 : Int32)).1), (f_X7_setsPolicy k (1 : Int32)).2)) else (if ((y.1 1) - (7 : Int32)) = (6 : Int32) then (if (f_X7_has_buffer y) = 0 then (if ((y.1 1) - (7 : Int32)) = (6 : Int32) then (if (f_X7_has_hybrid y) = 0 then ((-5 : Int32), k) else (((f_X7_setsPolicy k (3 : Int32)).1), (f_X7_setsPolicy k (3 : Int32)).2)) else ((-5 : Int32), k)) else (((f_X7_setsPolicy k (2 : Int32)).1), (f_X7_setsPolicy k (2 : Int32)).2)) else (if ((y.1 1) - (7 : Int32)) = (6 : Int32) then (if (f_X7_has_hybrid y) = 0 then ((-5 : Int32), k) else (((f_X7_setsPolicy k (3 : Int32)).1), (f_X7_setsPolicy k (3 : Int32)).2)) else ((-5 : Int32), k))))
set_option maxRecDepth 100000 in
set_option maxHeartbeats 4000000 in
theorem c_X7_policyFrom7 {l : Launch} {D : va_G} {cI cB : ClassId} (qm mb ma me mr mn ms mk : Nat) (k : Cf) (v : Fn) (a : Fn) (y : Ky) : CI l X0 D cI cB yX7_policyFrom cX7_policyFrom 3 (some .int) 1 28 0 0 [.ref qm, .int (7 : Int32)] (wM cI qm mb ma me mr mn ms mk k v a y) (fun (r : Int32) (u : Cf) => r = (f_X7_policyFrom7 k y).1 ∧ u = (f_X7_policyFrom7 k y).2) (fun u => (wM cI qm mb ma me mr mn ms mk u v a y)) := by
  refine CI.of (by decide) (Nat.le_of_ble_eq_true rfl) ?_
  intro p e s m below meth c A ls E hr hk hin hA hAA hX Y hl
  have E : EE p c cX7_policyFrom 3 s _ m RX7 D cI cB := E
  have hl : lv_has ls 3 [(0, .ref qm), (1, .int (7 : Int32))] := hl
  refine lv_aload_n E.1.1 E.1.2.1 dX7_policyFrom_0 rfl (lv_at hl 0 rfl) ?_
  refine gf_X7_73 E Y 0 rfl rfl dX7_policyFrom_1 ?_
  refine lv_iload_n E.1.1 E.1.2.1 dX7_policyFrom_4 rfl (lv_at hl 1 rfl) ?_
  refine lv_isub E.1.1 E.1.2.1 dX7_policyFrom_5 ?_
  refine lv_istore_n (lv' := [(2, .int ((y.1 1) - (7 : Int32))), (0, .ref qm), (1, .int (7 : Int32))]) E.1.1 E.1.2.1 dX7_policyFrom_6 rfl hl (by decide) rfl (fun ls hl => ?_)
  refine lv_iload_n E.1.1 E.1.2.1 dX7_policyFrom_7 rfl (lv_at hl 0 rfl) ?_
  refine lv_iconst (v := 5) E.1.1 E.1.2.1 dX7_policyFrom_8 (by decide) ?_
  refine lv_icmp_ne (tgt := 30) E.1.1 E.1.2.1 dX7_policyFrom_9 (by decide) (fun c_9 => ?_) (fun c_9 => ?_)
  · skip
    refine lv_iload_n E.1.1 E.1.2.1 dX7_policyFrom_30 rfl (lv_at hl 0 rfl) ?_
    refine lv_iconst (v := 4) E.1.1 E.1.2.1 dX7_policyFrom_31 (by decide) ?_
    refine lv_icmp_ne (tgt := 53) E.1.1 E.1.2.1 dX7_policyFrom_32 (by decide) (fun c_32 => ?_) (fun c_32 => ?_)
    · skip
      refine lv_iload_n E.1.1 E.1.2.1 dX7_policyFrom_53 rfl (lv_at hl 0 rfl) ?_
      refine lv_bipush (v := 6) E.1.1 E.1.2.1 dX7_policyFrom_54 (by decide) ?_
      refine lv_icmp_ne (tgt := 78) E.1.1 E.1.2.1 dX7_policyFrom_56 (by decide) (fun c_56 => ?_) (fun c_56 => ?_)
      · skip
        refine lv_iload_n E.1.1 E.1.2.1 dX7_policyFrom_78 rfl (lv_at hl 0 rfl) ?_
        refine lv_bipush (v := 6) E.1.1 E.1.2.1 dX7_policyFrom_79 (by decide) ?_
        refine lv_icmp_ne (tgt := 105) E.1.1 E.1.2.1 dX7_policyFrom_81 (by decide) (fun c_81 => ?_) (fun c_81 => ?_)
        · skip
          refine lv_bipush (v := (-5)) E.1.1 E.1.2.1 dX7_policyFrom_105 (by decide) ?_
          have e9 : (f_X7_policyFrom7 k y) = ((-5 : Int32), k) := (if_neg c_9).trans ((if_neg c_32).trans ((if_neg c_56).trans ((if_neg c_81).trans (rfl))))
          exact r_iret E Y hr hk (-5 : Int32) k (pr_of e9) rfl ⟨Nat.le_of_ble_eq_true rfl, Nat.le_of_ble_eq_true rfl⟩ dX7_policyFrom_107
        · skip
          refine lv_aload_n E.1.1 E.1.2.1 dX7_policyFrom_84 rfl (lv_at hl 1 rfl) ?_
          refine lv_iload_n E.1.1 E.1.2.1 dX7_policyFrom_85 rfl (lv_at hl 2 rfl) ?_
          refine lv_ldc2 (v := 82502180904) E.1.1 E.1.2.1 E.1.2.2.2.1 (E.1.2.2.2.2 _ mj_X7_99) dX7_policyFrom_86 ?_
          refine lv_bipush (v := 6) E.1.1 E.1.2.1 dX7_policyFrom_89 (by decide) ?_
          refine r_Vi (wr := []) (w2 := fun _ => [(qm, .inr (9, [.int (k.1 0), .int (k.1 1), .ref ma, .int (k.1 2), .ref mb, .int (k.1 3), .ref me, .ref mr, .int (k.1 4), .int (k.1 5), .int (k.1 6), .int (k.1 7), .int (k.1 8), .int (k.1 9), .int (k.1 10), .ref mn, .ref ms, .int (y.1 0), .ref mk, .int (y.1 1)])), (mb, .inl (cI, 5, .inl k.2.1)), (ma, .inl (cI, 30, .inl k.2.2.1)), (me, .inl (cI, 12, .inl k.2.2.2.1)), (mr, .inl (cI, 12, .inl k.2.2.2.2)), (mn, .inl (cI, 52, .inl v)), (ms, .inl (cI, 52, .inl a)), (mk, .inl (cI, 16, .inl y.2))]) E Y hA hl.1 (c_X7_has_hybrid qm mb ma me mr mn ms mk k v a y) lk_X7_87 X0b (fun _ _ _ => trivial) [0, 1, 2, 3, 4, 5, 6, 7] [] [0, 1, 2, 3, 4, 5, 6, 7] rfl rfl (by decide) (fun _ => rfl) 0 rfl rfl ⟨Nat.le_of_ble_eq_true rfl, Nat.le_of_ble_eq_true rfl⟩ ⟨Nat.le_of_ble_eq_true rfl, Nat.le_of_ble_eq_true rfl⟩ rfl rfl (Nat.le_of_ble_eq_true rfl) dX7_policyFrom_91 (fun r u H locs hp Y => ?_)
          subst hp
          refine lv_if_eq (tgt := 105) E.1.1 E.1.2.1 dX7_policyFrom_94 (by decide) (fun c_94 => ?_) (fun c_94 => ?_)
          · skip
            refine lv_bipush (v := (-5)) E.1.1 E.1.2.1 dX7_policyFrom_105 (by decide) ?_
            have e9 : (f_X7_policyFrom7 k y) = ((-5 : Int32), k) := (if_neg c_9).trans ((if_neg c_32).trans ((if_neg c_56).trans ((if_pos c_81).trans ((if_pos c_94).trans (rfl)))))
            exact r_iret E Y hr hk (-5 : Int32) k (pr_of e9) rfl ⟨Nat.le_of_ble_eq_true rfl, Nat.le_of_ble_eq_true rfl⟩ dX7_policyFrom_107
          · skip
            refine lv_aload_n E.1.1 E.1.2.1 dX7_policyFrom_97 rfl (lv_at hl 1 rfl) ?_
            refine lv_iconst (v := 3) E.1.1 E.1.2.1 dX7_policyFrom_98 (by decide) ?_
            refine r_Vi (wr := []) (w2 := fun u => [(qm, .inr (9, [.int (u.1 0), .int (u.1 1), .ref ma, .int (u.1 2), .ref mb, .int (u.1 3), .ref me, .ref mr, .int (u.1 4), .int (u.1 5), .int (u.1 6), .int (u.1 7), .int (u.1 8), .int (u.1 9), .int (u.1 10), .ref mn, .ref ms, .int (y.1 0), .ref mk, .int (y.1 1)])), (mb, .inl (cI, 5, .inl u.2.1)), (ma, .inl (cI, 30, .inl u.2.2.1)), (me, .inl (cI, 12, .inl u.2.2.2.1)), (mr, .inl (cI, 12, .inl u.2.2.2.2)), (mn, .inl (cI, 52, .inl v)), (ms, .inl (cI, 52, .inl a)), (mk, .inl (cI, 16, .inl y.2))]) E Y hA hl.1 (c_X7_setsPolicy qm mb ma me mr mn ms mk k v a y (3 : Int32)) lk_X7_91 X0b (fun _ _ _ => trivial) [0, 1, 2, 3, 4, 5, 6, 7] [] [0, 1, 2, 3, 4, 5, 6, 7] rfl rfl (by decide) (fun _ => rfl) 0 rfl rfl ⟨Nat.le_of_ble_eq_true rfl, Nat.le_of_ble_eq_true rfl⟩ ⟨Nat.le_of_ble_eq_true rfl, Nat.le_of_ble_eq_true rfl⟩ rfl rfl (Nat.le_of_ble_eq_true rfl) dX7_policyFrom_99 (fun r u H locs hp Y => ?_)
            obtain ⟨rfl, rfl⟩ := hp
            refine lv_goto (tgt := 107) E.1.1 E.1.2.1 dX7_policyFrom_102 (by decide) ?_
            have e9 : (f_X7_policyFrom7 k y) = (((f_X7_setsPolicy k (3 : Int32)).1), (f_X7_setsPolicy k (3 : Int32)).2) := (if_neg c_9).trans ((if_neg c_32).trans ((if_neg c_56).trans ((if_pos c_81).trans ((if_neg c_94).trans (rfl)))))
            exact r_iret E Y hr hk ((f_X7_setsPolicy k (3 : Int32)).1) ((f_X7_setsPolicy k (3 : Int32)).2) (pr_of e9) rfl ⟨Nat.le_of_ble_eq_true rfl, Nat.le_of_ble_eq_true rfl⟩ dX7_policyFrom_107
      · skip
        refine lv_aload_n E.1.1 E.1.2.1 dX7_policyFrom_59 rfl (lv_at hl 1 rfl) ?_
        refine lv_iload_n E.1.1 E.1.2.1 dX7_policyFrom_60 rfl (lv_at hl 2 rfl) ?_
        refine lv_ldc2 (v := 22106060518) E.1.1 E.1.2.1 E.1.2.2.2.1 (E.1.2.2.2.2 _ mj_X7_97) dX7_policyFrom_61 ?_
        refine lv_bipush (v := 6) E.1.1 E.1.2.1 dX7_policyFrom_64 (by decide) ?_
        refine r_Vi (wr := []) (w2 := fun _ => [(qm, .inr (9, [.int (k.1 0), .int (k.1 1), .ref ma, .int (k.1 2), .ref mb, .int (k.1 3), .ref me, .ref mr, .int (k.1 4), .int (k.1 5), .int (k.1 6), .int (k.1 7), .int (k.1 8), .int (k.1 9), .int (k.1 10), .ref mn, .ref ms, .int (y.1 0), .ref mk, .int (y.1 1)])), (mb, .inl (cI, 5, .inl k.2.1)), (ma, .inl (cI, 30, .inl k.2.2.1)), (me, .inl (cI, 12, .inl k.2.2.2.1)), (mr, .inl (cI, 12, .inl k.2.2.2.2)), (mn, .inl (cI, 52, .inl v)), (ms, .inl (cI, 52, .inl a)), (mk, .inl (cI, 16, .inl y.2))]) E Y hA hl.1 (c_X7_has_buffer qm mb ma me mr mn ms mk k v a y) lk_X7_87 X0b (fun _ _ _ => trivial) [0, 1, 2, 3, 4, 5, 6, 7] [] [0, 1, 2, 3, 4, 5, 6, 7] rfl rfl (by decide) (fun _ => rfl) 0 rfl rfl ⟨Nat.le_of_ble_eq_true rfl, Nat.le_of_ble_eq_true rfl⟩ ⟨Nat.le_of_ble_eq_true rfl, Nat.le_of_ble_eq_true rfl⟩ rfl rfl (Nat.le_of_ble_eq_true rfl) dX7_policyFrom_66 (fun r u H locs hp Y => ?_)
        subst hp
        refine lv_if_eq (tgt := 78) E.1.1 E.1.2.1 dX7_policyFrom_69 (by decide) (fun c_69 => ?_) (fun c_69 => ?_)
        · skip
          refine lv_iload_n E.1.1 E.1.2.1 dX7_policyFrom_78 rfl (lv_at hl 0 rfl) ?_
          refine lv_bipush (v := 6) E.1.1 E.1.2.1 dX7_policyFrom_79 (by decide) ?_
          refine lv_icmp_ne (tgt := 105) E.1.1 E.1.2.1 dX7_policyFrom_81 (by decide) (fun c_81 => ?_) (fun c_81 => ?_)
          · skip
            refine lv_bipush (v := (-5)) E.1.1 E.1.2.1 dX7_policyFrom_105 (by decide) ?_
            have e9 : (f_X7_policyFrom7 k y) = ((-5 : Int32), k) := (if_neg c_9).trans ((if_neg c_32).trans ((if_pos c_56).trans ((if_pos c_69).trans ((if_neg c_81).trans (rfl)))))
            exact r_iret E Y hr hk (-5 : Int32) k (pr_of e9) rfl ⟨Nat.le_of_ble_eq_true rfl, Nat.le_of_ble_eq_true rfl⟩ dX7_policyFrom_107
          · skip
            refine lv_aload_n E.1.1 E.1.2.1 dX7_policyFrom_84 rfl (lv_at hl 1 rfl) ?_
            refine lv_iload_n E.1.1 E.1.2.1 dX7_policyFrom_85 rfl (lv_at hl 2 rfl) ?_
            refine lv_ldc2 (v := 82502180904) E.1.1 E.1.2.1 E.1.2.2.2.1 (E.1.2.2.2.2 _ mj_X7_99) dX7_policyFrom_86 ?_
            refine lv_bipush (v := 6) E.1.1 E.1.2.1 dX7_policyFrom_89 (by decide) ?_
            refine r_Vi (wr := []) (w2 := fun _ => [(qm, .inr (9, [.int (k.1 0), .int (k.1 1), .ref ma, .int (k.1 2), .ref mb, .int (k.1 3), .ref me, .ref mr, .int (k.1 4), .int (k.1 5), .int (k.1 6), .int (k.1 7), .int (k.1 8), .int (k.1 9), .int (k.1 10), .ref mn, .ref ms, .int (y.1 0), .ref mk, .int (y.1 1)])), (mb, .inl (cI, 5, .inl k.2.1)), (ma, .inl (cI, 30, .inl k.2.2.1)), (me, .inl (cI, 12, .inl k.2.2.2.1)), (mr, .inl (cI, 12, .inl k.2.2.2.2)), (mn, .inl (cI, 52, .inl v)), (ms, .inl (cI, 52, .inl a)), (mk, .inl (cI, 16, .inl y.2))]) E Y hA hl.1 (c_X7_has_hybrid qm mb ma me mr mn ms mk k v a y) lk_X7_87 X0b (fun _ _ _ => trivial) [0, 1, 2, 3, 4, 5, 6, 7] [] [0, 1, 2, 3, 4, 5, 6, 7] rfl rfl (by decide) (fun _ => rfl) 0 rfl rfl ⟨Nat.le_of_ble_eq_true rfl, Nat.le_of_ble_eq_true rfl⟩ ⟨Nat.le_of_ble_eq_true rfl, Nat.le_of_ble_eq_true rfl⟩ rfl rfl (Nat.le_of_ble_eq_true rfl) dX7_policyFrom_91 (fun r u H locs hp Y => ?_)
            subst hp
            refine lv_if_eq (tgt := 105) E.1.1 E.1.2.1 dX7_policyFrom_94 (by decide) (fun c_94 => ?_) (fun c_94 => ?_)
            · skip
              refine lv_bipush (v := (-5)) E.1.1 E.1.2.1 dX7_policyFrom_105 (by decide) ?_
              have e9 : (f_X7_policyFrom7 k y) = ((-5 : Int32), k) := (if_neg c_9).trans ((if_neg c_32).trans ((if_pos c_56).trans ((if_pos c_69).trans ((if_pos c_81).trans ((if_pos c_94).trans (rfl))))))
              exact r_iret E Y hr hk (-5 : Int32) k (pr_of e9) rfl ⟨Nat.le_of_ble_eq_true rfl, Nat.le_of_ble_eq_true rfl⟩ dX7_policyFrom_107
            · skip
              refine lv_aload_n E.1.1 E.1.2.1 dX7_policyFrom_97 rfl (lv_at hl 1 rfl) ?_
              refine lv_iconst (v := 3) E.1.1 E.1.2.1 dX7_policyFrom_98 (by decide) ?_
              refine r_Vi (wr := []) (w2 := fun u => [(qm, .inr (9, [.int (u.1 0), .int (u.1 1), .ref ma, .int (u.1 2), .ref mb, .int (u.1 3), .ref me, .ref mr, .int (u.1 4), .int (u.1 5), .int (u.1 6), .int (u.1 7), .int (u.1 8), .int (u.1 9), .int (u.1 10), .ref mn, .ref ms, .int (y.1 0), .ref mk, .int (y.1 1)])), (mb, .inl (cI, 5, .inl u.2.1)), (ma, .inl (cI, 30, .inl u.2.2.1)), (me, .inl (cI, 12, .inl u.2.2.2.1)), (mr, .inl (cI, 12, .inl u.2.2.2.2)), (mn, .inl (cI, 52, .inl v)), (ms, .inl (cI, 52, .inl a)), (mk, .inl (cI, 16, .inl y.2))]) E Y hA hl.1 (c_X7_setsPolicy qm mb ma me mr mn ms mk k v a y (3 : Int32)) lk_X7_91 X0b (fun _ _ _ => trivial) [0, 1, 2, 3, 4, 5, 6, 7] [] [0, 1, 2, 3, 4, 5, 6, 7] rfl rfl (by decide) (fun _ => rfl) 0 rfl rfl ⟨Nat.le_of_ble_eq_true rfl, Nat.le_of_ble_eq_true rfl⟩ ⟨Nat.le_of_ble_eq_true rfl, Nat.le_of_ble_eq_true rfl⟩ rfl rfl (Nat.le_of_ble_eq_true rfl) dX7_policyFrom_99 (fun r u H locs hp Y => ?_)
              obtain ⟨rfl, rfl⟩ := hp
              refine lv_goto (tgt := 107) E.1.1 E.1.2.1 dX7_policyFrom_102 (by decide) ?_
              have e9 : (f_X7_policyFrom7 k y) = (((f_X7_setsPolicy k (3 : Int32)).1), (f_X7_setsPolicy k (3 : Int32)).2) := (if_neg c_9).trans ((if_neg c_32).trans ((if_pos c_56).trans ((if_pos c_69).trans ((if_pos c_81).trans ((if_neg c_94).trans (rfl))))))
              exact r_iret E Y hr hk ((f_X7_setsPolicy k (3 : Int32)).1) ((f_X7_setsPolicy k (3 : Int32)).2) (pr_of e9) rfl ⟨Nat.le_of_ble_eq_true rfl, Nat.le_of_ble_eq_true rfl⟩ dX7_policyFrom_107
        · skip
          refine lv_aload_n E.1.1 E.1.2.1 dX7_policyFrom_72 rfl (lv_at hl 1 rfl) ?_
          refine lv_iconst (v := 2) E.1.1 E.1.2.1 dX7_policyFrom_73 (by decide) ?_
          refine r_Vi (wr := []) (w2 := fun u => [(qm, .inr (9, [.int (u.1 0), .int (u.1 1), .ref ma, .int (u.1 2), .ref mb, .int (u.1 3), .ref me, .ref mr, .int (u.1 4), .int (u.1 5), .int (u.1 6), .int (u.1 7), .int (u.1 8), .int (u.1 9), .int (u.1 10), .ref mn, .ref ms, .int (y.1 0), .ref mk, .int (y.1 1)])), (mb, .inl (cI, 5, .inl u.2.1)), (ma, .inl (cI, 30, .inl u.2.2.1)), (me, .inl (cI, 12, .inl u.2.2.2.1)), (mr, .inl (cI, 12, .inl u.2.2.2.2)), (mn, .inl (cI, 52, .inl v)), (ms, .inl (cI, 52, .inl a)), (mk, .inl (cI, 16, .inl y.2))]) E Y hA hl.1 (c_X7_setsPolicy qm mb ma me mr mn ms mk k v a y (2 : Int32)) lk_X7_91 X0b (fun _ _ _ => trivial) [0, 1, 2, 3, 4, 5, 6, 7] [] [0, 1, 2, 3, 4, 5, 6, 7] rfl rfl (by decide) (fun _ => rfl) 0 rfl rfl ⟨Nat.le_of_ble_eq_true rfl, Nat.le_of_ble_eq_true rfl⟩ ⟨Nat.le_of_ble_eq_true rfl, Nat.le_of_ble_eq_true rfl⟩ rfl rfl (Nat.le_of_ble_eq_true rfl) dX7_policyFrom_74 (fun r u H locs hp Y => ?_)
          obtain ⟨rfl, rfl⟩ := hp
          have e9 : (f_X7_policyFrom7 k y) = (((f_X7_setsPolicy k (2 : Int32)).1), (f_X7_setsPolicy k (2 : Int32)).2) := (if_neg c_9).trans ((if_neg c_32).trans ((if_pos c_56).trans ((if_neg c_69).trans (rfl))))
          exact r_iret E Y hr hk ((f_X7_setsPolicy k (2 : Int32)).1) ((f_X7_setsPolicy k (2 : Int32)).2) (pr_of e9) rfl ⟨Nat.le_of_ble_eq_true rfl, Nat.le_of_ble_eq_true rfl⟩ dX7_policyFrom_77
    · skip
      refine lv_aload_n E.1.1 E.1.2.1 dX7_policyFrom_35 rfl (lv_at hl 1 rfl) ?_
      refine lv_iload_n E.1.1 E.1.2.1 dX7_policyFrom_36 rfl (lv_at hl 2 rfl) ?_
      refine lv_ldc2 (v := 18012005) E.1.1 E.1.2.1 E.1.2.2.2.1 (E.1.2.2.2.2 _ mj_X7_95) dX7_policyFrom_37 ?_
      refine lv_iconst (v := 4) E.1.1 E.1.2.1 dX7_policyFrom_40 (by decide) ?_
      refine r_Vi (wr := []) (w2 := fun _ => [(qm, .inr (9, [.int (k.1 0), .int (k.1 1), .ref ma, .int (k.1 2), .ref mb, .int (k.1 3), .ref me, .ref mr, .int (k.1 4), .int (k.1 5), .int (k.1 6), .int (k.1 7), .int (k.1 8), .int (k.1 9), .int (k.1 10), .ref mn, .ref ms, .int (y.1 0), .ref mk, .int (y.1 1)])), (mb, .inl (cI, 5, .inl k.2.1)), (ma, .inl (cI, 30, .inl k.2.2.1)), (me, .inl (cI, 12, .inl k.2.2.2.1)), (mr, .inl (cI, 12, .inl k.2.2.2.2)), (mn, .inl (cI, 52, .inl v)), (ms, .inl (cI, 52, .inl a)), (mk, .inl (cI, 16, .inl y.2))]) E Y hA hl.1 (c_X7_has_rate qm mb ma me mr mn ms mk k v a y) lk_X7_87 X0b (fun _ _ _ => trivial) [0, 1, 2, 3, 4, 5, 6, 7] [] [0, 1, 2, 3, 4, 5, 6, 7] rfl rfl (by decide) (fun _ => rfl) 0 rfl rfl ⟨Nat.le_of_ble_eq_true rfl, Nat.le_of_ble_eq_true rfl⟩ ⟨Nat.le_of_ble_eq_true rfl, Nat.le_of_ble_eq_true rfl⟩ rfl rfl (Nat.le_of_ble_eq_true rfl) dX7_policyFrom_41 (fun r u H locs hp Y => ?_)
      subst hp
      refine lv_if_eq (tgt := 53) E.1.1 E.1.2.1 dX7_policyFrom_44 (by decide) (fun c_44 => ?_) (fun c_44 => ?_)
      · skip
        refine lv_iload_n E.1.1 E.1.2.1 dX7_policyFrom_53 rfl (lv_at hl 0 rfl) ?_
        refine lv_bipush (v := 6) E.1.1 E.1.2.1 dX7_policyFrom_54 (by decide) ?_
        refine lv_icmp_ne (tgt := 78) E.1.1 E.1.2.1 dX7_policyFrom_56 (by decide) (fun c_56 => ?_) (fun c_56 => ?_)
        · skip
          refine lv_iload_n E.1.1 E.1.2.1 dX7_policyFrom_78 rfl (lv_at hl 0 rfl) ?_
          refine lv_bipush (v := 6) E.1.1 E.1.2.1 dX7_policyFrom_79 (by decide) ?_
          refine lv_icmp_ne (tgt := 105) E.1.1 E.1.2.1 dX7_policyFrom_81 (by decide) (fun c_81 => ?_) (fun c_81 => ?_)
          · skip
            refine lv_bipush (v := (-5)) E.1.1 E.1.2.1 dX7_policyFrom_105 (by decide) ?_
            have e9 : (f_X7_policyFrom7 k y) = ((-5 : Int32), k) := (if_neg c_9).trans ((if_pos c_32).trans ((if_pos c_44).trans ((if_neg c_56).trans ((if_neg c_81).trans (rfl)))))
            exact r_iret E Y hr hk (-5 : Int32) k (pr_of e9) rfl ⟨Nat.le_of_ble_eq_true rfl, Nat.le_of_ble_eq_true rfl⟩ dX7_policyFrom_107
          · skip
            refine lv_aload_n E.1.1 E.1.2.1 dX7_policyFrom_84 rfl (lv_at hl 1 rfl) ?_
            refine lv_iload_n E.1.1 E.1.2.1 dX7_policyFrom_85 rfl (lv_at hl 2 rfl) ?_
            refine lv_ldc2 (v := 82502180904) E.1.1 E.1.2.1 E.1.2.2.2.1 (E.1.2.2.2.2 _ mj_X7_99) dX7_policyFrom_86 ?_
            refine lv_bipush (v := 6) E.1.1 E.1.2.1 dX7_policyFrom_89 (by decide) ?_
            refine r_Vi (wr := []) (w2 := fun _ => [(qm, .inr (9, [.int (k.1 0), .int (k.1 1), .ref ma, .int (k.1 2), .ref mb, .int (k.1 3), .ref me, .ref mr, .int (k.1 4), .int (k.1 5), .int (k.1 6), .int (k.1 7), .int (k.1 8), .int (k.1 9), .int (k.1 10), .ref mn, .ref ms, .int (y.1 0), .ref mk, .int (y.1 1)])), (mb, .inl (cI, 5, .inl k.2.1)), (ma, .inl (cI, 30, .inl k.2.2.1)), (me, .inl (cI, 12, .inl k.2.2.2.1)), (mr, .inl (cI, 12, .inl k.2.2.2.2)), (mn, .inl (cI, 52, .inl v)), (ms, .inl (cI, 52, .inl a)), (mk, .inl (cI, 16, .inl y.2))]) E Y hA hl.1 (c_X7_has_hybrid qm mb ma me mr mn ms mk k v a y) lk_X7_87 X0b (fun _ _ _ => trivial) [0, 1, 2, 3, 4, 5, 6, 7] [] [0, 1, 2, 3, 4, 5, 6, 7] rfl rfl (by decide) (fun _ => rfl) 0 rfl rfl ⟨Nat.le_of_ble_eq_true rfl, Nat.le_of_ble_eq_true rfl⟩ ⟨Nat.le_of_ble_eq_true rfl, Nat.le_of_ble_eq_true rfl⟩ rfl rfl (Nat.le_of_ble_eq_true rfl) dX7_policyFrom_91 (fun r u H locs hp Y => ?_)
            subst hp
            refine lv_if_eq (tgt := 105) E.1.1 E.1.2.1 dX7_policyFrom_94 (by decide) (fun c_94 => ?_) (fun c_94 => ?_)
            · skip
              refine lv_bipush (v := (-5)) E.1.1 E.1.2.1 dX7_policyFrom_105 (by decide) ?_
              have e9 : (f_X7_policyFrom7 k y) = ((-5 : Int32), k) := (if_neg c_9).trans ((if_pos c_32).trans ((if_pos c_44).trans ((if_neg c_56).trans ((if_pos c_81).trans ((if_pos c_94).trans (rfl))))))
              exact r_iret E Y hr hk (-5 : Int32) k (pr_of e9) rfl ⟨Nat.le_of_ble_eq_true rfl, Nat.le_of_ble_eq_true rfl⟩ dX7_policyFrom_107
            · skip
              refine lv_aload_n E.1.1 E.1.2.1 dX7_policyFrom_97 rfl (lv_at hl 1 rfl) ?_
              refine lv_iconst (v := 3) E.1.1 E.1.2.1 dX7_policyFrom_98 (by decide) ?_
              refine r_Vi (wr := []) (w2 := fun u => [(qm, .inr (9, [.int (u.1 0), .int (u.1 1), .ref ma, .int (u.1 2), .ref mb, .int (u.1 3), .ref me, .ref mr, .int (u.1 4), .int (u.1 5), .int (u.1 6), .int (u.1 7), .int (u.1 8), .int (u.1 9), .int (u.1 10), .ref mn, .ref ms, .int (y.1 0), .ref mk, .int (y.1 1)])), (mb, .inl (cI, 5, .inl u.2.1)), (ma, .inl (cI, 30, .inl u.2.2.1)), (me, .inl (cI, 12, .inl u.2.2.2.1)), (mr, .inl (cI, 12, .inl u.2.2.2.2)), (mn, .inl (cI, 52, .inl v)), (ms, .inl (cI, 52, .inl a)), (mk, .inl (cI, 16, .inl y.2))]) E Y hA hl.1 (c_X7_setsPolicy qm mb ma me mr mn ms mk k v a y (3 : Int32)) lk_X7_91 X0b (fun _ _ _ => trivial) [0, 1, 2, 3, 4, 5, 6, 7] [] [0, 1, 2, 3, 4, 5, 6, 7] rfl rfl (by decide) (fun _ => rfl) 0 rfl rfl ⟨Nat.le_of_ble_eq_true rfl, Nat.le_of_ble_eq_true rfl⟩ ⟨Nat.le_of_ble_eq_true rfl, Nat.le_of_ble_eq_true rfl⟩ rfl rfl (Nat.le_of_ble_eq_true rfl) dX7_policyFrom_99 (fun r u H locs hp Y => ?_)
              obtain ⟨rfl, rfl⟩ := hp
              refine lv_goto (tgt := 107) E.1.1 E.1.2.1 dX7_policyFrom_102 (by decide) ?_
              have e9 : (f_X7_policyFrom7 k y) = (((f_X7_setsPolicy k (3 : Int32)).1), (f_X7_setsPolicy k (3 : Int32)).2) := (if_neg c_9).trans ((if_pos c_32).trans ((if_pos c_44).trans ((if_neg c_56).trans ((if_pos c_81).trans ((if_neg c_94).trans (rfl))))))
              exact r_iret E Y hr hk ((f_X7_setsPolicy k (3 : Int32)).1) ((f_X7_setsPolicy k (3 : Int32)).2) (pr_of e9) rfl ⟨Nat.le_of_ble_eq_true rfl, Nat.le_of_ble_eq_true rfl⟩ dX7_policyFrom_107
        · skip
          refine lv_aload_n E.1.1 E.1.2.1 dX7_policyFrom_59 rfl (lv_at hl 1 rfl) ?_
          refine lv_iload_n E.1.1 E.1.2.1 dX7_policyFrom_60 rfl (lv_at hl 2 rfl) ?_
          refine lv_ldc2 (v := 22106060518) E.1.1 E.1.2.1 E.1.2.2.2.1 (E.1.2.2.2.2 _ mj_X7_97) dX7_policyFrom_61 ?_
          refine lv_bipush (v := 6) E.1.1 E.1.2.1 dX7_policyFrom_64 (by decide) ?_
          refine r_Vi (wr := []) (w2 := fun _ => [(qm, .inr (9, [.int (k.1 0), .int (k.1 1), .ref ma, .int (k.1 2), .ref mb, .int (k.1 3), .ref me, .ref mr, .int (k.1 4), .int (k.1 5), .int (k.1 6), .int (k.1 7), .int (k.1 8), .int (k.1 9), .int (k.1 10), .ref mn, .ref ms, .int (y.1 0), .ref mk, .int (y.1 1)])), (mb, .inl (cI, 5, .inl k.2.1)), (ma, .inl (cI, 30, .inl k.2.2.1)), (me, .inl (cI, 12, .inl k.2.2.2.1)), (mr, .inl (cI, 12, .inl k.2.2.2.2)), (mn, .inl (cI, 52, .inl v)), (ms, .inl (cI, 52, .inl a)), (mk, .inl (cI, 16, .inl y.2))]) E Y hA hl.1 (c_X7_has_buffer qm mb ma me mr mn ms mk k v a y) lk_X7_87 X0b (fun _ _ _ => trivial) [0, 1, 2, 3, 4, 5, 6, 7] [] [0, 1, 2, 3, 4, 5, 6, 7] rfl rfl (by decide) (fun _ => rfl) 0 rfl rfl ⟨Nat.le_of_ble_eq_true rfl, Nat.le_of_ble_eq_true rfl⟩ ⟨Nat.le_of_ble_eq_true rfl, Nat.le_of_ble_eq_true rfl⟩ rfl rfl (Nat.le_of_ble_eq_true rfl) dX7_policyFrom_66 (fun r u H locs hp Y => ?_)
          subst hp
          refine lv_if_eq (tgt := 78) E.1.1 E.1.2.1 dX7_policyFrom_69 (by decide) (fun c_69 => ?_) (fun c_69 => ?_)
          · skip
            refine lv_iload_n E.1.1 E.1.2.1 dX7_policyFrom_78 rfl (lv_at hl 0 rfl) ?_
            refine lv_bipush (v := 6) E.1.1 E.1.2.1 dX7_policyFrom_79 (by decide) ?_
            refine lv_icmp_ne (tgt := 105) E.1.1 E.1.2.1 dX7_policyFrom_81 (by decide) (fun c_81 => ?_) (fun c_81 => ?_)
            · skip
              refine lv_bipush (v := (-5)) E.1.1 E.1.2.1 dX7_policyFrom_105 (by decide) ?_
              have e9 : (f_X7_policyFrom7 k y) = ((-5 : Int32), k) := (if_neg c_9).trans ((if_pos c_32).trans ((if_pos c_44).trans ((if_pos c_56).trans ((if_pos c_69).trans ((if_neg c_81).trans (rfl))))))
              exact r_iret E Y hr hk (-5 : Int32) k (pr_of e9) rfl ⟨Nat.le_of_ble_eq_true rfl, Nat.le_of_ble_eq_true rfl⟩ dX7_policyFrom_107
            · skip
              refine lv_aload_n E.1.1 E.1.2.1 dX7_policyFrom_84 rfl (lv_at hl 1 rfl) ?_
              refine lv_iload_n E.1.1 E.1.2.1 dX7_policyFrom_85 rfl (lv_at hl 2 rfl) ?_
              refine lv_ldc2 (v := 82502180904) E.1.1 E.1.2.1 E.1.2.2.2.1 (E.1.2.2.2.2 _ mj_X7_99) dX7_policyFrom_86 ?_
              refine lv_bipush (v := 6) E.1.1 E.1.2.1 dX7_policyFrom_89 (by decide) ?_
              refine r_Vi (wr := []) (w2 := fun _ => [(qm, .inr (9, [.int (k.1 0), .int (k.1 1), .ref ma, .int (k.1 2), .ref mb, .int (k.1 3), .ref me, .ref mr, .int (k.1 4), .int (k.1 5), .int (k.1 6), .int (k.1 7), .int (k.1 8), .int (k.1 9), .int (k.1 10), .ref mn, .ref ms, .int (y.1 0), .ref mk, .int (y.1 1)])), (mb, .inl (cI, 5, .inl k.2.1)), (ma, .inl (cI, 30, .inl k.2.2.1)), (me, .inl (cI, 12, .inl k.2.2.2.1)), (mr, .inl (cI, 12, .inl k.2.2.2.2)), (mn, .inl (cI, 52, .inl v)), (ms, .inl (cI, 52, .inl a)), (mk, .inl (cI, 16, .inl y.2))]) E Y hA hl.1 (c_X7_has_hybrid qm mb ma me mr mn ms mk k v a y) lk_X7_87 X0b (fun _ _ _ => trivial) [0, 1, 2, 3, 4, 5, 6, 7] [] [0, 1, 2, 3, 4, 5, 6, 7] rfl rfl (by decide) (fun _ => rfl) 0 rfl rfl ⟨Nat.le_of_ble_eq_true rfl, Nat.le_of_ble_eq_true rfl⟩ ⟨Nat.le_of_ble_eq_true rfl, Nat.le_of_ble_eq_true rfl⟩ rfl rfl (Nat.le_of_ble_eq_true rfl) dX7_policyFrom_91 (fun r u H locs hp Y => ?_)
              subst hp
              refine lv_if_eq (tgt := 105) E.1.1 E.1.2.1 dX7_policyFrom_94 (by decide) (fun c_94 => ?_) (fun c_94 => ?_)
              · skip
                refine lv_bipush (v := (-5)) E.1.1 E.1.2.1 dX7_policyFrom_105 (by decide) ?_
                have e9 : (f_X7_policyFrom7 k y) = ((-5 : Int32), k) := (if_neg c_9).trans ((if_pos c_32).trans ((if_pos c_44).trans ((if_pos c_56).trans ((if_pos c_69).trans ((if_pos c_81).trans ((if_pos c_94).trans (rfl)))))))
                exact r_iret E Y hr hk (-5 : Int32) k (pr_of e9) rfl ⟨Nat.le_of_ble_eq_true rfl, Nat.le_of_ble_eq_true rfl⟩ dX7_policyFrom_107
              · skip
                refine lv_aload_n E.1.1 E.1.2.1 dX7_policyFrom_97 rfl (lv_at hl 1 rfl) ?_
                refine lv_iconst (v := 3) E.1.1 E.1.2.1 dX7_policyFrom_98 (by decide) ?_
                refine r_Vi (wr := []) (w2 := fun u => [(qm, .inr (9, [.int (u.1 0), .int (u.1 1), .ref ma, .int (u.1 2), .ref mb, .int (u.1 3), .ref me, .ref mr, .int (u.1 4), .int (u.1 5), .int (u.1 6), .int (u.1 7), .int (u.1 8), .int (u.1 9), .int (u.1 10), .ref mn, .ref ms, .int (y.1 0), .ref mk, .int (y.1 1)])), (mb, .inl (cI, 5, .inl u.2.1)), (ma, .inl (cI, 30, .inl u.2.2.1)), (me, .inl (cI, 12, .inl u.2.2.2.1)), (mr, .inl (cI, 12, .inl u.2.2.2.2)), (mn, .inl (cI, 52, .inl v)), (ms, .inl (cI, 52, .inl a)), (mk, .inl (cI, 16, .inl y.2))]) E Y hA hl.1 (c_X7_setsPolicy qm mb ma me mr mn ms mk k v a y (3 : Int32)) lk_X7_91 X0b (fun _ _ _ => trivial) [0, 1, 2, 3, 4, 5, 6, 7] [] [0, 1, 2, 3, 4, 5, 6, 7] rfl rfl (by decide) (fun _ => rfl) 0 rfl rfl ⟨Nat.le_of_ble_eq_true rfl, Nat.le_of_ble_eq_true rfl⟩ ⟨Nat.le_of_ble_eq_true rfl, Nat.le_of_ble_eq_true rfl⟩ rfl rfl (Nat.le_of_ble_eq_true rfl) dX7_policyFrom_99 (fun r u H locs hp Y => ?_)
                obtain ⟨rfl, rfl⟩ := hp
                refine lv_goto (tgt := 107) E.1.1 E.1.2.1 dX7_policyFrom_102 (by decide) ?_
                have e9 : (f_X7_policyFrom7 k y) = (((f_X7_setsPolicy k (3 : Int32)).1), (f_X7_setsPolicy k (3 : Int32)).2) := (if_neg c_9).trans ((if_pos c_32).trans ((if_pos c_44).trans ((if_pos c_56).trans ((if_pos c_69).trans ((if_pos c_81).trans ((if_neg c_94).trans (rfl)))))))
                exact r_iret E Y hr hk ((f_X7_setsPolicy k (3 : Int32)).1) ((f_X7_setsPolicy k (3 : Int32)).2) (pr_of e9) rfl ⟨Nat.le_of_ble_eq_true rfl, Nat.le_of_ble_eq_true rfl⟩ dX7_policyFrom_107
          · skip
            refine lv_aload_n E.1.1 E.1.2.1 dX7_policyFrom_72 rfl (lv_at hl 1 rfl) ?_
            refine lv_iconst (v := 2) E.1.1 E.1.2.1 dX7_policyFrom_73 (by decide) ?_
            refine r_Vi (wr := []) (w2 := fun u => [(qm, .inr (9, [.int (u.1 0), .int (u.1 1), .ref ma, .int (u.1 2), .ref mb, .int (u.1 3), .ref me, .ref mr, .int (u.1 4), .int (u.1 5), .int (u.1 6), .int (u.1 7), .int (u.1 8), .int (u.1 9), .int (u.1 10), .ref mn, .ref ms, .int (y.1 0), .ref mk, .int (y.1 1)])), (mb, .inl (cI, 5, .inl u.2.1)), (ma, .inl (cI, 30, .inl u.2.2.1)), (me, .inl (cI, 12, .inl u.2.2.2.1)), (mr, .inl (cI, 12, .inl u.2.2.2.2)), (mn, .inl (cI, 52, .inl v)), (ms, .inl (cI, 52, .inl a)), (mk, .inl (cI, 16, .inl y.2))]) E Y hA hl.1 (c_X7_setsPolicy qm mb ma me mr mn ms mk k v a y (2 : Int32)) lk_X7_91 X0b (fun _ _ _ => trivial) [0, 1, 2, 3, 4, 5, 6, 7] [] [0, 1, 2, 3, 4, 5, 6, 7] rfl rfl (by decide) (fun _ => rfl) 0 rfl rfl ⟨Nat.le_of_ble_eq_true rfl, Nat.le_of_ble_eq_true rfl⟩ ⟨Nat.le_of_ble_eq_true rfl, Nat.le_of_ble_eq_true rfl⟩ rfl rfl (Nat.le_of_ble_eq_true rfl) dX7_policyFrom_74 (fun r u H locs hp Y => ?_)
            obtain ⟨rfl, rfl⟩ := hp
            have e9 : (f_X7_policyFrom7 k y) = (((f_X7_setsPolicy k (2 : Int32)).1), (f_X7_setsPolicy k (2 : Int32)).2) := (if_neg c_9).trans ((if_pos c_32).trans ((if_pos c_44).trans ((if_pos c_56).trans ((if_neg c_69).trans (rfl)))))
            exact r_iret E Y hr hk ((f_X7_setsPolicy k (2 : Int32)).1) ((f_X7_setsPolicy k (2 : Int32)).2) (pr_of e9) rfl ⟨Nat.le_of_ble_eq_true rfl, Nat.le_of_ble_eq_true rfl⟩ dX7_policyFrom_77
      · skip
        refine lv_aload_n E.1.1 E.1.2.1 dX7_policyFrom_47 rfl (lv_at hl 1 rfl) ?_
        refine lv_iconst (v := 1) E.1.1 E.1.2.1 dX7_policyFrom_48 (by decide) ?_
        refine r_Vi (wr := []) (w2 := fun u => [(qm, .inr (9, [.int (u.1 0), .int (u.1 1), .ref ma, .int (u.1 2), .ref mb, .int (u.1 3), .ref me, .ref mr, .int (u.1 4), .int (u.1 5), .int (u.1 6), .int (u.1 7), .int (u.1 8), .int (u.1 9), .int (u.1 10), .ref mn, .ref ms, .int (y.1 0), .ref mk, .int (y.1 1)])), (mb, .inl (cI, 5, .inl u.2.1)), (ma, .inl (cI, 30, .inl u.2.2.1)), (me, .inl (cI, 12, .inl u.2.2.2.1)), (mr, .inl (cI, 12, .inl u.2.2.2.2)), (mn, .inl (cI, 52, .inl v)), (ms, .inl (cI, 52, .inl a)), (mk, .inl (cI, 16, .inl y.2))]) E Y hA hl.1 (c_X7_setsPolicy qm mb ma me mr mn ms mk k v a y (1 : Int32)) lk_X7_91 X0b (fun _ _ _ => trivial) [0, 1, 2, 3, 4, 5, 6, 7] [] [0, 1, 2, 3, 4, 5, 6, 7] rfl rfl (by decide) (fun _ => rfl) 0 rfl rfl ⟨Nat.le_of_ble_eq_true rfl, Nat.le_of_ble_eq_true rfl⟩ ⟨Nat.le_of_ble_eq_true rfl, Nat.le_of_ble_eq_true rfl⟩ rfl rfl (Nat.le_of_ble_eq_true rfl) dX7_policyFrom_49 (fun r u H locs hp Y => ?_)
        obtain ⟨rfl, rfl⟩ := hp
        have e9 : (f_X7_policyFrom7 k y) = (((f_X7_setsPolicy k (1 : Int32)).1), (f_X7_setsPolicy k (1 : Int32)).2) := (if_neg c_9).trans ((if_pos c_32).trans ((if_neg c_44).trans (rfl)))
        exact r_iret E Y hr hk ((f_X7_setsPolicy k (1 : Int32)).1) ((f_X7_setsPolicy k (1 : Int32)).2) (pr_of e9) rfl ⟨Nat.le_of_ble_eq_true rfl, Nat.le_of_ble_eq_true rfl⟩ dX7_policyFrom_52
  · skip
    refine lv_aload_n E.1.1 E.1.2.1 dX7_policyFrom_12 rfl (lv_at hl 1 rfl) ?_
    refine lv_iload_n E.1.1 E.1.2.1 dX7_policyFrom_13 rfl (lv_at hl 2 rfl) ?_
    refine lv_ldc2 (v := 609240504) E.1.1 E.1.2.1 E.1.2.2.2.1 (E.1.2.2.2.2 _ mj_X7_85) dX7_policyFrom_14 ?_
    refine lv_iconst (v := 5) E.1.1 E.1.2.1 dX7_policyFrom_17 (by decide) ?_
    refine r_Vi (wr := []) (w2 := fun _ => [(qm, .inr (9, [.int (k.1 0), .int (k.1 1), .ref ma, .int (k.1 2), .ref mb, .int (k.1 3), .ref me, .ref mr, .int (k.1 4), .int (k.1 5), .int (k.1 6), .int (k.1 7), .int (k.1 8), .int (k.1 9), .int (k.1 10), .ref mn, .ref ms, .int (y.1 0), .ref mk, .int (y.1 1)])), (mb, .inl (cI, 5, .inl k.2.1)), (ma, .inl (cI, 30, .inl k.2.2.1)), (me, .inl (cI, 12, .inl k.2.2.2.1)), (mr, .inl (cI, 12, .inl k.2.2.2.2)), (mn, .inl (cI, 52, .inl v)), (ms, .inl (cI, 52, .inl a)), (mk, .inl (cI, 16, .inl y.2))]) E Y hA hl.1 (c_X7_has_fixed qm mb ma me mr mn ms mk k v a y) lk_X7_87 X0b (fun _ _ _ => trivial) [0, 1, 2, 3, 4, 5, 6, 7] [] [0, 1, 2, 3, 4, 5, 6, 7] rfl rfl (by decide) (fun _ => rfl) 0 rfl rfl ⟨Nat.le_of_ble_eq_true rfl, Nat.le_of_ble_eq_true rfl⟩ ⟨Nat.le_of_ble_eq_true rfl, Nat.le_of_ble_eq_true rfl⟩ rfl rfl (Nat.le_of_ble_eq_true rfl) dX7_policyFrom_18 (fun r u H locs hp Y => ?_)
    subst hp
    refine lv_if_eq (tgt := 30) E.1.1 E.1.2.1 dX7_policyFrom_21 (by decide) (fun c_21 => ?_) (fun c_21 => ?_)
    · skip
      refine lv_iload_n E.1.1 E.1.2.1 dX7_policyFrom_30 rfl (lv_at hl 0 rfl) ?_
      refine lv_iconst (v := 4) E.1.1 E.1.2.1 dX7_policyFrom_31 (by decide) ?_
      refine lv_icmp_ne (tgt := 53) E.1.1 E.1.2.1 dX7_policyFrom_32 (by decide) (fun c_32 => ?_) (fun c_32 => ?_)
      · skip
        refine lv_iload_n E.1.1 E.1.2.1 dX7_policyFrom_53 rfl (lv_at hl 0 rfl) ?_
        refine lv_bipush (v := 6) E.1.1 E.1.2.1 dX7_policyFrom_54 (by decide) ?_
        refine lv_icmp_ne (tgt := 78) E.1.1 E.1.2.1 dX7_policyFrom_56 (by decide) (fun c_56 => ?_) (fun c_56 => ?_)
        · skip
          refine lv_iload_n E.1.1 E.1.2.1 dX7_policyFrom_78 rfl (lv_at hl 0 rfl) ?_
          refine lv_bipush (v := 6) E.1.1 E.1.2.1 dX7_policyFrom_79 (by decide) ?_
          refine lv_icmp_ne (tgt := 105) E.1.1 E.1.2.1 dX7_policyFrom_81 (by decide) (fun c_81 => ?_) (fun c_81 => ?_)
          · skip
            refine lv_bipush (v := (-5)) E.1.1 E.1.2.1 dX7_policyFrom_105 (by decide) ?_
            have e9 : (f_X7_policyFrom7 k y) = ((-5 : Int32), k) := (if_pos c_9).trans ((if_pos c_21).trans ((if_neg c_32).trans ((if_neg c_56).trans ((if_neg c_81).trans (rfl)))))
            exact r_iret E Y hr hk (-5 : Int32) k (pr_of e9) rfl ⟨Nat.le_of_ble_eq_true rfl, Nat.le_of_ble_eq_true rfl⟩ dX7_policyFrom_107
          · skip
            refine lv_aload_n E.1.1 E.1.2.1 dX7_policyFrom_84 rfl (lv_at hl 1 rfl) ?_
            refine lv_iload_n E.1.1 E.1.2.1 dX7_policyFrom_85 rfl (lv_at hl 2 rfl) ?_
            refine lv_ldc2 (v := 82502180904) E.1.1 E.1.2.1 E.1.2.2.2.1 (E.1.2.2.2.2 _ mj_X7_99) dX7_policyFrom_86 ?_
            refine lv_bipush (v := 6) E.1.1 E.1.2.1 dX7_policyFrom_89 (by decide) ?_
            refine r_Vi (wr := []) (w2 := fun _ => [(qm, .inr (9, [.int (k.1 0), .int (k.1 1), .ref ma, .int (k.1 2), .ref mb, .int (k.1 3), .ref me, .ref mr, .int (k.1 4), .int (k.1 5), .int (k.1 6), .int (k.1 7), .int (k.1 8), .int (k.1 9), .int (k.1 10), .ref mn, .ref ms, .int (y.1 0), .ref mk, .int (y.1 1)])), (mb, .inl (cI, 5, .inl k.2.1)), (ma, .inl (cI, 30, .inl k.2.2.1)), (me, .inl (cI, 12, .inl k.2.2.2.1)), (mr, .inl (cI, 12, .inl k.2.2.2.2)), (mn, .inl (cI, 52, .inl v)), (ms, .inl (cI, 52, .inl a)), (mk, .inl (cI, 16, .inl y.2))]) E Y hA hl.1 (c_X7_has_hybrid qm mb ma me mr mn ms mk k v a y) lk_X7_87 X0b (fun _ _ _ => trivial) [0, 1, 2, 3, 4, 5, 6, 7] [] [0, 1, 2, 3, 4, 5, 6, 7] rfl rfl (by decide) (fun _ => rfl) 0 rfl rfl ⟨Nat.le_of_ble_eq_true rfl, Nat.le_of_ble_eq_true rfl⟩ ⟨Nat.le_of_ble_eq_true rfl, Nat.le_of_ble_eq_true rfl⟩ rfl rfl (Nat.le_of_ble_eq_true rfl) dX7_policyFrom_91 (fun r u H locs hp Y => ?_)
            subst hp
            refine lv_if_eq (tgt := 105) E.1.1 E.1.2.1 dX7_policyFrom_94 (by decide) (fun c_94 => ?_) (fun c_94 => ?_)
            · skip
              refine lv_bipush (v := (-5)) E.1.1 E.1.2.1 dX7_policyFrom_105 (by decide) ?_
              have e9 : (f_X7_policyFrom7 k y) = ((-5 : Int32), k) := (if_pos c_9).trans ((if_pos c_21).trans ((if_neg c_32).trans ((if_neg c_56).trans ((if_pos c_81).trans ((if_pos c_94).trans (rfl))))))
              exact r_iret E Y hr hk (-5 : Int32) k (pr_of e9) rfl ⟨Nat.le_of_ble_eq_true rfl, Nat.le_of_ble_eq_true rfl⟩ dX7_policyFrom_107
            · skip
              refine lv_aload_n E.1.1 E.1.2.1 dX7_policyFrom_97 rfl (lv_at hl 1 rfl) ?_
              refine lv_iconst (v := 3) E.1.1 E.1.2.1 dX7_policyFrom_98 (by decide) ?_
              refine r_Vi (wr := []) (w2 := fun u => [(qm, .inr (9, [.int (u.1 0), .int (u.1 1), .ref ma, .int (u.1 2), .ref mb, .int (u.1 3), .ref me, .ref mr, .int (u.1 4), .int (u.1 5), .int (u.1 6), .int (u.1 7), .int (u.1 8), .int (u.1 9), .int (u.1 10), .ref mn, .ref ms, .int (y.1 0), .ref mk, .int (y.1 1)])), (mb, .inl (cI, 5, .inl u.2.1)), (ma, .inl (cI, 30, .inl u.2.2.1)), (me, .inl (cI, 12, .inl u.2.2.2.1)), (mr, .inl (cI, 12, .inl u.2.2.2.2)), (mn, .inl (cI, 52, .inl v)), (ms, .inl (cI, 52, .inl a)), (mk, .inl (cI, 16, .inl y.2))]) E Y hA hl.1 (c_X7_setsPolicy qm mb ma me mr mn ms mk k v a y (3 : Int32)) lk_X7_91 X0b (fun _ _ _ => trivial) [0, 1, 2, 3, 4, 5, 6, 7] [] [0, 1, 2, 3, 4, 5, 6, 7] rfl rfl (by decide) (fun _ => rfl) 0 rfl rfl ⟨Nat.le_of_ble_eq_true rfl, Nat.le_of_ble_eq_true rfl⟩ ⟨Nat.le_of_ble_eq_true rfl, Nat.le_of_ble_eq_true rfl⟩ rfl rfl (Nat.le_of_ble_eq_true rfl) dX7_policyFrom_99 (fun r u H locs hp Y => ?_)
              obtain ⟨rfl, rfl⟩ := hp
              refine lv_goto (tgt := 107) E.1.1 E.1.2.1 dX7_policyFrom_102 (by decide) ?_
              have e9 : (f_X7_policyFrom7 k y) = (((f_X7_setsPolicy k (3 : Int32)).1), (f_X7_setsPolicy k (3 : Int32)).2) := (if_pos c_9).trans ((if_pos c_21).trans ((if_neg c_32).trans ((if_neg c_56).trans ((if_pos c_81).trans ((if_neg c_94).trans (rfl))))))
              exact r_iret E Y hr hk ((f_X7_setsPolicy k (3 : Int32)).1) ((f_X7_setsPolicy k (3 : Int32)).2) (pr_of e9) rfl ⟨Nat.le_of_ble_eq_true rfl, Nat.le_of_ble_eq_true rfl⟩ dX7_policyFrom_107
        · skip
          refine lv_aload_n E.1.1 E.1.2.1 dX7_policyFrom_59 rfl (lv_at hl 1 rfl) ?_
          refine lv_iload_n E.1.1 E.1.2.1 dX7_policyFrom_60 rfl (lv_at hl 2 rfl) ?_
          refine lv_ldc2 (v := 22106060518) E.1.1 E.1.2.1 E.1.2.2.2.1 (E.1.2.2.2.2 _ mj_X7_97) dX7_policyFrom_61 ?_
          refine lv_bipush (v := 6) E.1.1 E.1.2.1 dX7_policyFrom_64 (by decide) ?_
          refine r_Vi (wr := []) (w2 := fun _ => [(qm, .inr (9, [.int (k.1 0), .int (k.1 1), .ref ma, .int (k.1 2), .ref mb, .int (k.1 3), .ref me, .ref mr, .int (k.1 4), .int (k.1 5), .int (k.1 6), .int (k.1 7), .int (k.1 8), .int (k.1 9), .int (k.1 10), .ref mn, .ref ms, .int (y.1 0), .ref mk, .int (y.1 1)])), (mb, .inl (cI, 5, .inl k.2.1)), (ma, .inl (cI, 30, .inl k.2.2.1)), (me, .inl (cI, 12, .inl k.2.2.2.1)), (mr, .inl (cI, 12, .inl k.2.2.2.2)), (mn, .inl (cI, 52, .inl v)), (ms, .inl (cI, 52, .inl a)), (mk, .inl (cI, 16, .inl y.2))]) E Y hA hl.1 (c_X7_has_buffer qm mb ma me mr mn ms mk k v a y) lk_X7_87 X0b (fun _ _ _ => trivial) [0, 1, 2, 3, 4, 5, 6, 7] [] [0, 1, 2, 3, 4, 5, 6, 7] rfl rfl (by decide) (fun _ => rfl) 0 rfl rfl ⟨Nat.le_of_ble_eq_true rfl, Nat.le_of_ble_eq_true rfl⟩ ⟨Nat.le_of_ble_eq_true rfl, Nat.le_of_ble_eq_true rfl⟩ rfl rfl (Nat.le_of_ble_eq_true rfl) dX7_policyFrom_66 (fun r u H locs hp Y => ?_)
          subst hp
          refine lv_if_eq (tgt := 78) E.1.1 E.1.2.1 dX7_policyFrom_69 (by decide) (fun c_69 => ?_) (fun c_69 => ?_)
          · skip
            refine lv_iload_n E.1.1 E.1.2.1 dX7_policyFrom_78 rfl (lv_at hl 0 rfl) ?_
            refine lv_bipush (v := 6) E.1.1 E.1.2.1 dX7_policyFrom_79 (by decide) ?_
            refine lv_icmp_ne (tgt := 105) E.1.1 E.1.2.1 dX7_policyFrom_81 (by decide) (fun c_81 => ?_) (fun c_81 => ?_)
            · skip
              refine lv_bipush (v := (-5)) E.1.1 E.1.2.1 dX7_policyFrom_105 (by decide) ?_
              have e9 : (f_X7_policyFrom7 k y) = ((-5 : Int32), k) := (if_pos c_9).trans ((if_pos c_21).trans ((if_neg c_32).trans ((if_pos c_56).trans ((if_pos c_69).trans ((if_neg c_81).trans (rfl))))))
              exact r_iret E Y hr hk (-5 : Int32) k (pr_of e9) rfl ⟨Nat.le_of_ble_eq_true rfl, Nat.le_of_ble_eq_true rfl⟩ dX7_policyFrom_107
            · skip
              refine lv_aload_n E.1.1 E.1.2.1 dX7_policyFrom_84 rfl (lv_at hl 1 rfl) ?_
              refine lv_iload_n E.1.1 E.1.2.1 dX7_policyFrom_85 rfl (lv_at hl 2 rfl) ?_
              refine lv_ldc2 (v := 82502180904) E.1.1 E.1.2.1 E.1.2.2.2.1 (E.1.2.2.2.2 _ mj_X7_99) dX7_policyFrom_86 ?_
              refine lv_bipush (v := 6) E.1.1 E.1.2.1 dX7_policyFrom_89 (by decide) ?_
              refine r_Vi (wr := []) (w2 := fun _ => [(qm, .inr (9, [.int (k.1 0), .int (k.1 1), .ref ma, .int (k.1 2), .ref mb, .int (k.1 3), .ref me, .ref mr, .int (k.1 4), .int (k.1 5), .int (k.1 6), .int (k.1 7), .int (k.1 8), .int (k.1 9), .int (k.1 10), .ref mn, .ref ms, .int (y.1 0), .ref mk, .int (y.1 1)])), (mb, .inl (cI, 5, .inl k.2.1)), (ma, .inl (cI, 30, .inl k.2.2.1)), (me, .inl (cI, 12, .inl k.2.2.2.1)), (mr, .inl (cI, 12, .inl k.2.2.2.2)), (mn, .inl (cI, 52, .inl v)), (ms, .inl (cI, 52, .inl a)), (mk, .inl (cI, 16, .inl y.2))]) E Y hA hl.1 (c_X7_has_hybrid qm mb ma me mr mn ms mk k v a y) lk_X7_87 X0b (fun _ _ _ => trivial) [0, 1, 2, 3, 4, 5, 6, 7] [] [0, 1, 2, 3, 4, 5, 6, 7] rfl rfl (by decide) (fun _ => rfl) 0 rfl rfl ⟨Nat.le_of_ble_eq_true rfl, Nat.le_of_ble_eq_true rfl⟩ ⟨Nat.le_of_ble_eq_true rfl, Nat.le_of_ble_eq_true rfl⟩ rfl rfl (Nat.le_of_ble_eq_true rfl) dX7_policyFrom_91 (fun r u H locs hp Y => ?_)
              subst hp
              refine lv_if_eq (tgt := 105) E.1.1 E.1.2.1 dX7_policyFrom_94 (by decide) (fun c_94 => ?_) (fun c_94 => ?_)
              · skip
                refine lv_bipush (v := (-5)) E.1.1 E.1.2.1 dX7_policyFrom_105 (by decide) ?_
                have e9 : (f_X7_policyFrom7 k y) = ((-5 : Int32), k) := (if_pos c_9).trans ((if_pos c_21).trans ((if_neg c_32).trans ((if_pos c_56).trans ((if_pos c_69).trans ((if_pos c_81).trans ((if_pos c_94).trans (rfl)))))))
                exact r_iret E Y hr hk (-5 : Int32) k (pr_of e9) rfl ⟨Nat.le_of_ble_eq_true rfl, Nat.le_of_ble_eq_true rfl⟩ dX7_policyFrom_107
              · skip
                refine lv_aload_n E.1.1 E.1.2.1 dX7_policyFrom_97 rfl (lv_at hl 1 rfl) ?_
                refine lv_iconst (v := 3) E.1.1 E.1.2.1 dX7_policyFrom_98 (by decide) ?_
                refine r_Vi (wr := []) (w2 := fun u => [(qm, .inr (9, [.int (u.1 0), .int (u.1 1), .ref ma, .int (u.1 2), .ref mb, .int (u.1 3), .ref me, .ref mr, .int (u.1 4), .int (u.1 5), .int (u.1 6), .int (u.1 7), .int (u.1 8), .int (u.1 9), .int (u.1 10), .ref mn, .ref ms, .int (y.1 0), .ref mk, .int (y.1 1)])), (mb, .inl (cI, 5, .inl u.2.1)), (ma, .inl (cI, 30, .inl u.2.2.1)), (me, .inl (cI, 12, .inl u.2.2.2.1)), (mr, .inl (cI, 12, .inl u.2.2.2.2)), (mn, .inl (cI, 52, .inl v)), (ms, .inl (cI, 52, .inl a)), (mk, .inl (cI, 16, .inl y.2))]) E Y hA hl.1 (c_X7_setsPolicy qm mb ma me mr mn ms mk k v a y (3 : Int32)) lk_X7_91 X0b (fun _ _ _ => trivial) [0, 1, 2, 3, 4, 5, 6, 7] [] [0, 1, 2, 3, 4, 5, 6, 7] rfl rfl (by decide) (fun _ => rfl) 0 rfl rfl ⟨Nat.le_of_ble_eq_true rfl, Nat.le_of_ble_eq_true rfl⟩ ⟨Nat.le_of_ble_eq_true rfl, Nat.le_of_ble_eq_true rfl⟩ rfl rfl (Nat.le_of_ble_eq_true rfl) dX7_policyFrom_99 (fun r u H locs hp Y => ?_)
                obtain ⟨rfl, rfl⟩ := hp
                refine lv_goto (tgt := 107) E.1.1 E.1.2.1 dX7_policyFrom_102 (by decide) ?_
                have e9 : (f_X7_policyFrom7 k y) = (((f_X7_setsPolicy k (3 : Int32)).1), (f_X7_setsPolicy k (3 : Int32)).2) := (if_pos c_9).trans ((if_pos c_21).trans ((if_neg c_32).trans ((if_pos c_56).trans ((if_pos c_69).trans ((if_pos c_81).trans ((if_neg c_94).trans (rfl)))))))
                exact r_iret E Y hr hk ((f_X7_setsPolicy k (3 : Int32)).1) ((f_X7_setsPolicy k (3 : Int32)).2) (pr_of e9) rfl ⟨Nat.le_of_ble_eq_true rfl, Nat.le_of_ble_eq_true rfl⟩ dX7_policyFrom_107
          · skip
            refine lv_aload_n E.1.1 E.1.2.1 dX7_policyFrom_72 rfl (lv_at hl 1 rfl) ?_
            refine lv_iconst (v := 2) E.1.1 E.1.2.1 dX7_policyFrom_73 (by decide) ?_
            refine r_Vi (wr := []) (w2 := fun u => [(qm, .inr (9, [.int (u.1 0), .int (u.1 1), .ref ma, .int (u.1 2), .ref mb, .int (u.1 3), .ref me, .ref mr, .int (u.1 4), .int (u.1 5), .int (u.1 6), .int (u.1 7), .int (u.1 8), .int (u.1 9), .int (u.1 10), .ref mn, .ref ms, .int (y.1 0), .ref mk, .int (y.1 1)])), (mb, .inl (cI, 5, .inl u.2.1)), (ma, .inl (cI, 30, .inl u.2.2.1)), (me, .inl (cI, 12, .inl u.2.2.2.1)), (mr, .inl (cI, 12, .inl u.2.2.2.2)), (mn, .inl (cI, 52, .inl v)), (ms, .inl (cI, 52, .inl a)), (mk, .inl (cI, 16, .inl y.2))]) E Y hA hl.1 (c_X7_setsPolicy qm mb ma me mr mn ms mk k v a y (2 : Int32)) lk_X7_91 X0b (fun _ _ _ => trivial) [0, 1, 2, 3, 4, 5, 6, 7] [] [0, 1, 2, 3, 4, 5, 6, 7] rfl rfl (by decide) (fun _ => rfl) 0 rfl rfl ⟨Nat.le_of_ble_eq_true rfl, Nat.le_of_ble_eq_true rfl⟩ ⟨Nat.le_of_ble_eq_true rfl, Nat.le_of_ble_eq_true rfl⟩ rfl rfl (Nat.le_of_ble_eq_true rfl) dX7_policyFrom_74 (fun r u H locs hp Y => ?_)
            obtain ⟨rfl, rfl⟩ := hp
            have e9 : (f_X7_policyFrom7 k y) = (((f_X7_setsPolicy k (2 : Int32)).1), (f_X7_setsPolicy k (2 : Int32)).2) := (if_pos c_9).trans ((if_pos c_21).trans ((if_neg c_32).trans ((if_pos c_56).trans ((if_neg c_69).trans (rfl)))))
            exact r_iret E Y hr hk ((f_X7_setsPolicy k (2 : Int32)).1) ((f_X7_setsPolicy k (2 : Int32)).2) (pr_of e9) rfl ⟨Nat.le_of_ble_eq_true rfl, Nat.le_of_ble_eq_true rfl⟩ dX7_policyFrom_77
      · skip
        refine lv_aload_n E.1.1 E.1.2.1 dX7_policyFrom_35 rfl (lv_at hl 1 rfl) ?_
        refine lv_iload_n E.1.1 E.1.2.1 dX7_policyFrom_36 rfl (lv_at hl 2 rfl) ?_
        refine lv_ldc2 (v := 18012005) E.1.1 E.1.2.1 E.1.2.2.2.1 (E.1.2.2.2.2 _ mj_X7_95) dX7_policyFrom_37 ?_
        refine lv_iconst (v := 4) E.1.1 E.1.2.1 dX7_policyFrom_40 (by decide) ?_
        refine r_Vi (wr := []) (w2 := fun _ => [(qm, .inr (9, [.int (k.1 0), .int (k.1 1), .ref ma, .int (k.1 2), .ref mb, .int (k.1 3), .ref me, .ref mr, .int (k.1 4), .int (k.1 5), .int (k.1 6), .int (k.1 7), .int (k.1 8), .int (k.1 9), .int (k.1 10), .ref mn, .ref ms, .int (y.1 0), .ref mk, .int (y.1 1)])), (mb, .inl (cI, 5, .inl k.2.1)), (ma, .inl (cI, 30, .inl k.2.2.1)), (me, .inl (cI, 12, .inl k.2.2.2.1)), (mr, .inl (cI, 12, .inl k.2.2.2.2)), (mn, .inl (cI, 52, .inl v)), (ms, .inl (cI, 52, .inl a)), (mk, .inl (cI, 16, .inl y.2))]) E Y hA hl.1 (c_X7_has_rate qm mb ma me mr mn ms mk k v a y) lk_X7_87 X0b (fun _ _ _ => trivial) [0, 1, 2, 3, 4, 5, 6, 7] [] [0, 1, 2, 3, 4, 5, 6, 7] rfl rfl (by decide) (fun _ => rfl) 0 rfl rfl ⟨Nat.le_of_ble_eq_true rfl, Nat.le_of_ble_eq_true rfl⟩ ⟨Nat.le_of_ble_eq_true rfl, Nat.le_of_ble_eq_true rfl⟩ rfl rfl (Nat.le_of_ble_eq_true rfl) dX7_policyFrom_41 (fun r u H locs hp Y => ?_)
        subst hp
        refine lv_if_eq (tgt := 53) E.1.1 E.1.2.1 dX7_policyFrom_44 (by decide) (fun c_44 => ?_) (fun c_44 => ?_)
        · skip
          refine lv_iload_n E.1.1 E.1.2.1 dX7_policyFrom_53 rfl (lv_at hl 0 rfl) ?_
          refine lv_bipush (v := 6) E.1.1 E.1.2.1 dX7_policyFrom_54 (by decide) ?_
          refine lv_icmp_ne (tgt := 78) E.1.1 E.1.2.1 dX7_policyFrom_56 (by decide) (fun c_56 => ?_) (fun c_56 => ?_)
          · skip
            refine lv_iload_n E.1.1 E.1.2.1 dX7_policyFrom_78 rfl (lv_at hl 0 rfl) ?_
            refine lv_bipush (v := 6) E.1.1 E.1.2.1 dX7_policyFrom_79 (by decide) ?_
            refine lv_icmp_ne (tgt := 105) E.1.1 E.1.2.1 dX7_policyFrom_81 (by decide) (fun c_81 => ?_) (fun c_81 => ?_)
            · skip
              refine lv_bipush (v := (-5)) E.1.1 E.1.2.1 dX7_policyFrom_105 (by decide) ?_
              have e9 : (f_X7_policyFrom7 k y) = ((-5 : Int32), k) := (if_pos c_9).trans ((if_pos c_21).trans ((if_pos c_32).trans ((if_pos c_44).trans ((if_neg c_56).trans ((if_neg c_81).trans (rfl))))))
              exact r_iret E Y hr hk (-5 : Int32) k (pr_of e9) rfl ⟨Nat.le_of_ble_eq_true rfl, Nat.le_of_ble_eq_true rfl⟩ dX7_policyFrom_107
            · skip
              refine lv_aload_n E.1.1 E.1.2.1 dX7_policyFrom_84 rfl (lv_at hl 1 rfl) ?_
              refine lv_iload_n E.1.1 E.1.2.1 dX7_policyFrom_85 rfl (lv_at hl 2 rfl) ?_
              refine lv_ldc2 (v := 82502180904) E.1.1 E.1.2.1 E.1.2.2.2.1 (E.1.2.2.2.2 _ mj_X7_99) dX7_policyFrom_86 ?_
              refine lv_bipush (v := 6) E.1.1 E.1.2.1 dX7_policyFrom_89 (by decide) ?_
              refine r_Vi (wr := []) (w2 := fun _ => [(qm, .inr (9, [.int (k.1 0), .int (k.1 1), .ref ma, .int (k.1 2), .ref mb, .int (k.1 3), .ref me, .ref mr, .int (k.1 4), .int (k.1 5), .int (k.1 6), .int (k.1 7), .int (k.1 8), .int (k.1 9), .int (k.1 10), .ref mn, .ref ms, .int (y.1 0), .ref mk, .int (y.1 1)])), (mb, .inl (cI, 5, .inl k.2.1)), (ma, .inl (cI, 30, .inl k.2.2.1)), (me, .inl (cI, 12, .inl k.2.2.2.1)), (mr, .inl (cI, 12, .inl k.2.2.2.2)), (mn, .inl (cI, 52, .inl v)), (ms, .inl (cI, 52, .inl a)), (mk, .inl (cI, 16, .inl y.2))]) E Y hA hl.1 (c_X7_has_hybrid qm mb ma me mr mn ms mk k v a y) lk_X7_87 X0b (fun _ _ _ => trivial) [0, 1, 2, 3, 4, 5, 6, 7] [] [0, 1, 2, 3, 4, 5, 6, 7] rfl rfl (by decide) (fun _ => rfl) 0 rfl rfl ⟨Nat.le_of_ble_eq_true rfl, Nat.le_of_ble_eq_true rfl⟩ ⟨Nat.le_of_ble_eq_true rfl, Nat.le_of_ble_eq_true rfl⟩ rfl rfl (Nat.le_of_ble_eq_true rfl) dX7_policyFrom_91 (fun r u H locs hp Y => ?_)
              subst hp
              refine lv_if_eq (tgt := 105) E.1.1 E.1.2.1 dX7_policyFrom_94 (by decide) (fun c_94 => ?_) (fun c_94 => ?_)
              · skip
                refine lv_bipush (v := (-5)) E.1.1 E.1.2.1 dX7_policyFrom_105 (by decide) ?_
                have e9 : (f_X7_policyFrom7 k y) = ((-5 : Int32), k) := (if_pos c_9).trans ((if_pos c_21).trans ((if_pos c_32).trans ((if_pos c_44).trans ((if_neg c_56).trans ((if_pos c_81).trans ((if_pos c_94).trans (rfl)))))))
                exact r_iret E Y hr hk (-5 : Int32) k (pr_of e9) rfl ⟨Nat.le_of_ble_eq_true rfl, Nat.le_of_ble_eq_true rfl⟩ dX7_policyFrom_107
              · skip
                refine lv_aload_n E.1.1 E.1.2.1 dX7_policyFrom_97 rfl (lv_at hl 1 rfl) ?_
                refine lv_iconst (v := 3) E.1.1 E.1.2.1 dX7_policyFrom_98 (by decide) ?_
                refine r_Vi (wr := []) (w2 := fun u => [(qm, .inr (9, [.int (u.1 0), .int (u.1 1), .ref ma, .int (u.1 2), .ref mb, .int (u.1 3), .ref me, .ref mr, .int (u.1 4), .int (u.1 5), .int (u.1 6), .int (u.1 7), .int (u.1 8), .int (u.1 9), .int (u.1 10), .ref mn, .ref ms, .int (y.1 0), .ref mk, .int (y.1 1)])), (mb, .inl (cI, 5, .inl u.2.1)), (ma, .inl (cI, 30, .inl u.2.2.1)), (me, .inl (cI, 12, .inl u.2.2.2.1)), (mr, .inl (cI, 12, .inl u.2.2.2.2)), (mn, .inl (cI, 52, .inl v)), (ms, .inl (cI, 52, .inl a)), (mk, .inl (cI, 16, .inl y.2))]) E Y hA hl.1 (c_X7_setsPolicy qm mb ma me mr mn ms mk k v a y (3 : Int32)) lk_X7_91 X0b (fun _ _ _ => trivial) [0, 1, 2, 3, 4, 5, 6, 7] [] [0, 1, 2, 3, 4, 5, 6, 7] rfl rfl (by decide) (fun _ => rfl) 0 rfl rfl ⟨Nat.le_of_ble_eq_true rfl, Nat.le_of_ble_eq_true rfl⟩ ⟨Nat.le_of_ble_eq_true rfl, Nat.le_of_ble_eq_true rfl⟩ rfl rfl (Nat.le_of_ble_eq_true rfl) dX7_policyFrom_99 (fun r u H locs hp Y => ?_)
                obtain ⟨rfl, rfl⟩ := hp
                refine lv_goto (tgt := 107) E.1.1 E.1.2.1 dX7_policyFrom_102 (by decide) ?_
                have e9 : (f_X7_policyFrom7 k y) = (((f_X7_setsPolicy k (3 : Int32)).1), (f_X7_setsPolicy k (3 : Int32)).2) := (if_pos c_9).trans ((if_pos c_21).trans ((if_pos c_32).trans ((if_pos c_44).trans ((if_neg c_56).trans ((if_pos c_81).trans ((if_neg c_94).trans (rfl)))))))
                exact r_iret E Y hr hk ((f_X7_setsPolicy k (3 : Int32)).1) ((f_X7_setsPolicy k (3 : Int32)).2) (pr_of e9) rfl ⟨Nat.le_of_ble_eq_true rfl, Nat.le_of_ble_eq_true rfl⟩ dX7_policyFrom_107
          · skip
            refine lv_aload_n E.1.1 E.1.2.1 dX7_policyFrom_59 rfl (lv_at hl 1 rfl) ?_
            refine lv_iload_n E.1.1 E.1.2.1 dX7_policyFrom_60 rfl (lv_at hl 2 rfl) ?_
            refine lv_ldc2 (v := 22106060518) E.1.1 E.1.2.1 E.1.2.2.2.1 (E.1.2.2.2.2 _ mj_X7_97) dX7_policyFrom_61 ?_
            refine lv_bipush (v := 6) E.1.1 E.1.2.1 dX7_policyFrom_64 (by decide) ?_
            refine r_Vi (wr := []) (w2 := fun _ => [(qm, .inr (9, [.int (k.1 0), .int (k.1 1), .ref ma, .int (k.1 2), .ref mb, .int (k.1 3), .ref me, .ref mr, .int (k.1 4), .int (k.1 5), .int (k.1 6), .int (k.1 7), .int (k.1 8), .int (k.1 9), .int (k.1 10), .ref mn, .ref ms, .int (y.1 0), .ref mk, .int (y.1 1)])), (mb, .inl (cI, 5, .inl k.2.1)), (ma, .inl (cI, 30, .inl k.2.2.1)), (me, .inl (cI, 12, .inl k.2.2.2.1)), (mr, .inl (cI, 12, .inl k.2.2.2.2)), (mn, .inl (cI, 52, .inl v)), (ms, .inl (cI, 52, .inl a)), (mk, .inl (cI, 16, .inl y.2))]) E Y hA hl.1 (c_X7_has_buffer qm mb ma me mr mn ms mk k v a y) lk_X7_87 X0b (fun _ _ _ => trivial) [0, 1, 2, 3, 4, 5, 6, 7] [] [0, 1, 2, 3, 4, 5, 6, 7] rfl rfl (by decide) (fun _ => rfl) 0 rfl rfl ⟨Nat.le_of_ble_eq_true rfl, Nat.le_of_ble_eq_true rfl⟩ ⟨Nat.le_of_ble_eq_true rfl, Nat.le_of_ble_eq_true rfl⟩ rfl rfl (Nat.le_of_ble_eq_true rfl) dX7_policyFrom_66 (fun r u H locs hp Y => ?_)
            subst hp
            refine lv_if_eq (tgt := 78) E.1.1 E.1.2.1 dX7_policyFrom_69 (by decide) (fun c_69 => ?_) (fun c_69 => ?_)
            · skip
              refine lv_iload_n E.1.1 E.1.2.1 dX7_policyFrom_78 rfl (lv_at hl 0 rfl) ?_
              refine lv_bipush (v := 6) E.1.1 E.1.2.1 dX7_policyFrom_79 (by decide) ?_
              refine lv_icmp_ne (tgt := 105) E.1.1 E.1.2.1 dX7_policyFrom_81 (by decide) (fun c_81 => ?_) (fun c_81 => ?_)
              · skip
                refine lv_bipush (v := (-5)) E.1.1 E.1.2.1 dX7_policyFrom_105 (by decide) ?_
                have e9 : (f_X7_policyFrom7 k y) = ((-5 : Int32), k) := (if_pos c_9).trans ((if_pos c_21).trans ((if_pos c_32).trans ((if_pos c_44).trans ((if_pos c_56).trans ((if_pos c_69).trans ((if_neg c_81).trans (rfl)))))))
                exact r_iret E Y hr hk (-5 : Int32) k (pr_of e9) rfl ⟨Nat.le_of_ble_eq_true rfl, Nat.le_of_ble_eq_true rfl⟩ dX7_policyFrom_107
              · skip
                refine lv_aload_n E.1.1 E.1.2.1 dX7_policyFrom_84 rfl (lv_at hl 1 rfl) ?_
                refine lv_iload_n E.1.1 E.1.2.1 dX7_policyFrom_85 rfl (lv_at hl 2 rfl) ?_
                refine lv_ldc2 (v := 82502180904) E.1.1 E.1.2.1 E.1.2.2.2.1 (E.1.2.2.2.2 _ mj_X7_99) dX7_policyFrom_86 ?_
                refine lv_bipush (v := 6) E.1.1 E.1.2.1 dX7_policyFrom_89 (by decide) ?_
                refine r_Vi (wr := []) (w2 := fun _ => [(qm, .inr (9, [.int (k.1 0), .int (k.1 1), .ref ma, .int (k.1 2), .ref mb, .int (k.1 3), .ref me, .ref mr, .int (k.1 4), .int (k.1 5), .int (k.1 6), .int (k.1 7), .int (k.1 8), .int (k.1 9), .int (k.1 10), .ref mn, .ref ms, .int (y.1 0), .ref mk, .int (y.1 1)])), (mb, .inl (cI, 5, .inl k.2.1)), (ma, .inl (cI, 30, .inl k.2.2.1)), (me, .inl (cI, 12, .inl k.2.2.2.1)), (mr, .inl (cI, 12, .inl k.2.2.2.2)), (mn, .inl (cI, 52, .inl v)), (ms, .inl (cI, 52, .inl a)), (mk, .inl (cI, 16, .inl y.2))]) E Y hA hl.1 (c_X7_has_hybrid qm mb ma me mr mn ms mk k v a y) lk_X7_87 X0b (fun _ _ _ => trivial) [0, 1, 2, 3, 4, 5, 6, 7] [] [0, 1, 2, 3, 4, 5, 6, 7] rfl rfl (by decide) (fun _ => rfl) 0 rfl rfl ⟨Nat.le_of_ble_eq_true rfl, Nat.le_of_ble_eq_true rfl⟩ ⟨Nat.le_of_ble_eq_true rfl, Nat.le_of_ble_eq_true rfl⟩ rfl rfl (Nat.le_of_ble_eq_true rfl) dX7_policyFrom_91 (fun r u H locs hp Y => ?_)
                subst hp
                refine lv_if_eq (tgt := 105) E.1.1 E.1.2.1 dX7_policyFrom_94 (by decide) (fun c_94 => ?_) (fun c_94 => ?_)
                · skip
                  refine lv_bipush (v := (-5)) E.1.1 E.1.2.1 dX7_policyFrom_105 (by decide) ?_
                  have e9 : (f_X7_policyFrom7 k y) = ((-5 : Int32), k) := (if_pos c_9).trans ((if_pos c_21).trans ((if_pos c_32).trans ((if_pos c_44).trans ((if_pos c_56).trans ((if_pos c_69).trans ((if_pos c_81).trans ((if_pos c_94).trans (rfl))))))))
                  exact r_iret E Y hr hk (-5 : Int32) k (pr_of e9) rfl ⟨Nat.le_of_ble_eq_true rfl, Nat.le_of_ble_eq_true rfl⟩ dX7_policyFrom_107
                · skip
                  refine lv_aload_n E.1.1 E.1.2.1 dX7_policyFrom_97 rfl (lv_at hl 1 rfl) ?_
                  refine lv_iconst (v := 3) E.1.1 E.1.2.1 dX7_policyFrom_98 (by decide) ?_
                  refine r_Vi (wr := []) (w2 := fun u => [(qm, .inr (9, [.int (u.1 0), .int (u.1 1), .ref ma, .int (u.1 2), .ref mb, .int (u.1 3), .ref me, .ref mr, .int (u.1 4), .int (u.1 5), .int (u.1 6), .int (u.1 7), .int (u.1 8), .int (u.1 9), .int (u.1 10), .ref mn, .ref ms, .int (y.1 0), .ref mk, .int (y.1 1)])), (mb, .inl (cI, 5, .inl u.2.1)), (ma, .inl (cI, 30, .inl u.2.2.1)), (me, .inl (cI, 12, .inl u.2.2.2.1)), (mr, .inl (cI, 12, .inl u.2.2.2.2)), (mn, .inl (cI, 52, .inl v)), (ms, .inl (cI, 52, .inl a)), (mk, .inl (cI, 16, .inl y.2))]) E Y hA hl.1 (c_X7_setsPolicy qm mb ma me mr mn ms mk k v a y (3 : Int32)) lk_X7_91 X0b (fun _ _ _ => trivial) [0, 1, 2, 3, 4, 5, 6, 7] [] [0, 1, 2, 3, 4, 5, 6, 7] rfl rfl (by decide) (fun _ => rfl) 0 rfl rfl ⟨Nat.le_of_ble_eq_true rfl, Nat.le_of_ble_eq_true rfl⟩ ⟨Nat.le_of_ble_eq_true rfl, Nat.le_of_ble_eq_true rfl⟩ rfl rfl (Nat.le_of_ble_eq_true rfl) dX7_policyFrom_99 (fun r u H locs hp Y => ?_)
                  obtain ⟨rfl, rfl⟩ := hp
                  refine lv_goto (tgt := 107) E.1.1 E.1.2.1 dX7_policyFrom_102 (by decide) ?_
                  have e9 : (f_X7_policyFrom7 k y) = (((f_X7_setsPolicy k (3 : Int32)).1), (f_X7_setsPolicy k (3 : Int32)).2) := (if_pos c_9).trans ((if_pos c_21).trans ((if_pos c_32).trans ((if_pos c_44).trans ((if_pos c_56).trans ((if_pos c_69).trans ((if_pos c_81).trans ((if_neg c_94).trans (rfl))))))))
                  exact r_iret E Y hr hk ((f_X7_setsPolicy k (3 : Int32)).1) ((f_X7_setsPolicy k (3 : Int32)).2) (pr_of e9) rfl ⟨Nat.le_of_ble_eq_true rfl, Nat.le_of_ble_eq_true rfl⟩ dX7_policyFrom_107
            · skip
              refine lv_aload_n E.1.1 E.1.2.1 dX7_policyFrom_72 rfl (lv_at hl 1 rfl) ?_
              refine lv_iconst (v := 2) E.1.1 E.1.2.1 dX7_policyFrom_73 (by decide) ?_
              refine r_Vi (wr := []) (w2 := fun u => [(qm, .inr (9, [.int (u.1 0), .int (u.1 1), .ref ma, .int (u.1 2), .ref mb, .int (u.1 3), .ref me, .ref mr, .int (u.1 4), .int (u.1 5), .int (u.1 6), .int (u.1 7), .int (u.1 8), .int (u.1 9), .int (u.1 10), .ref mn, .ref ms, .int (y.1 0), .ref mk, .int (y.1 1)])), (mb, .inl (cI, 5, .inl u.2.1)), (ma, .inl (cI, 30, .inl u.2.2.1)), (me, .inl (cI, 12, .inl u.2.2.2.1)), (mr, .inl (cI, 12, .inl u.2.2.2.2)), (mn, .inl (cI, 52, .inl v)), (ms, .inl (cI, 52, .inl a)), (mk, .inl (cI, 16, .inl y.2))]) E Y hA hl.1 (c_X7_setsPolicy qm mb ma me mr mn ms mk k v a y (2 : Int32)) lk_X7_91 X0b (fun _ _ _ => trivial) [0, 1, 2, 3, 4, 5, 6, 7] [] [0, 1, 2, 3, 4, 5, 6, 7] rfl rfl (by decide) (fun _ => rfl) 0 rfl rfl ⟨Nat.le_of_ble_eq_true rfl, Nat.le_of_ble_eq_true rfl⟩ ⟨Nat.le_of_ble_eq_true rfl, Nat.le_of_ble_eq_true rfl⟩ rfl rfl (Nat.le_of_ble_eq_true rfl) dX7_policyFrom_74 (fun r u H locs hp Y => ?_)
              obtain ⟨rfl, rfl⟩ := hp
              have e9 : (f_X7_policyFrom7 k y) = (((f_X7_setsPolicy k (2 : Int32)).1), (f_X7_setsPolicy k (2 : Int32)).2) := (if_pos c_9).trans ((if_pos c_21).trans ((if_pos c_32).trans ((if_pos c_44).trans ((if_pos c_56).trans ((if_neg c_69).trans (rfl))))))
              exact r_iret E Y hr hk ((f_X7_setsPolicy k (2 : Int32)).1) ((f_X7_setsPolicy k (2 : Int32)).2) (pr_of e9) rfl ⟨Nat.le_of_ble_eq_true rfl, Nat.le_of_ble_eq_true rfl⟩ dX7_policyFrom_77
        · skip
          refine lv_aload_n E.1.1 E.1.2.1 dX7_policyFrom_47 rfl (lv_at hl 1 rfl) ?_
          refine lv_iconst (v := 1) E.1.1 E.1.2.1 dX7_policyFrom_48 (by decide) ?_
          refine r_Vi (wr := []) (w2 := fun u => [(qm, .inr (9, [.int (u.1 0), .int (u.1 1), .ref ma, .int (u.1 2), .ref mb, .int (u.1 3), .ref me, .ref mr, .int (u.1 4), .int (u.1 5), .int (u.1 6), .int (u.1 7), .int (u.1 8), .int (u.1 9), .int (u.1 10), .ref mn, .ref ms, .int (y.1 0), .ref mk, .int (y.1 1)])), (mb, .inl (cI, 5, .inl u.2.1)), (ma, .inl (cI, 30, .inl u.2.2.1)), (me, .inl (cI, 12, .inl u.2.2.2.1)), (mr, .inl (cI, 12, .inl u.2.2.2.2)), (mn, .inl (cI, 52, .inl v)), (ms, .inl (cI, 52, .inl a)), (mk, .inl (cI, 16, .inl y.2))]) E Y hA hl.1 (c_X7_setsPolicy qm mb ma me mr mn ms mk k v a y (1 : Int32)) lk_X7_91 X0b (fun _ _ _ => trivial) [0, 1, 2, 3, 4, 5, 6, 7] [] [0, 1, 2, 3, 4, 5, 6, 7] rfl rfl (by decide) (fun _ => rfl) 0 rfl rfl ⟨Nat.le_of_ble_eq_true rfl, Nat.le_of_ble_eq_true rfl⟩ ⟨Nat.le_of_ble_eq_true rfl, Nat.le_of_ble_eq_true rfl⟩ rfl rfl (Nat.le_of_ble_eq_true rfl) dX7_policyFrom_49 (fun r u H locs hp Y => ?_)
          obtain ⟨rfl, rfl⟩ := hp
          have e9 : (f_X7_policyFrom7 k y) = (((f_X7_setsPolicy k (1 : Int32)).1), (f_X7_setsPolicy k (1 : Int32)).2) := (if_pos c_9).trans ((if_pos c_21).trans ((if_pos c_32).trans ((if_neg c_44).trans (rfl))))
          exact r_iret E Y hr hk ((f_X7_setsPolicy k (1 : Int32)).1) ((f_X7_setsPolicy k (1 : Int32)).2) (pr_of e9) rfl ⟨Nat.le_of_ble_eq_true rfl, Nat.le_of_ble_eq_true rfl⟩ dX7_policyFrom_52
    · skip
      refine lv_aload_n E.1.1 E.1.2.1 dX7_policyFrom_24 rfl (lv_at hl 1 rfl) ?_
      refine lv_iconst (v := 0) E.1.1 E.1.2.1 dX7_policyFrom_25 (by decide) ?_
      refine r_Vi (wr := []) (w2 := fun u => [(qm, .inr (9, [.int (u.1 0), .int (u.1 1), .ref ma, .int (u.1 2), .ref mb, .int (u.1 3), .ref me, .ref mr, .int (u.1 4), .int (u.1 5), .int (u.1 6), .int (u.1 7), .int (u.1 8), .int (u.1 9), .int (u.1 10), .ref mn, .ref ms, .int (y.1 0), .ref mk, .int (y.1 1)])), (mb, .inl (cI, 5, .inl u.2.1)), (ma, .inl (cI, 30, .inl u.2.2.1)), (me, .inl (cI, 12, .inl u.2.2.2.1)), (mr, .inl (cI, 12, .inl u.2.2.2.2)), (mn, .inl (cI, 52, .inl v)), (ms, .inl (cI, 52, .inl a)), (mk, .inl (cI, 16, .inl y.2))]) E Y hA hl.1 (c_X7_setsPolicy qm mb ma me mr mn ms mk k v a y (0 : Int32)) lk_X7_91 X0b (fun _ _ _ => trivial) [0, 1, 2, 3, 4, 5, 6, 7] [] [0, 1, 2, 3, 4, 5, 6, 7] rfl rfl (by decide) (fun _ => rfl) 0 rfl rfl ⟨Nat.le_of_ble_eq_true rfl, Nat.le_of_ble_eq_true rfl⟩ ⟨Nat.le_of_ble_eq_true rfl, Nat.le_of_ble_eq_true rfl⟩ rfl rfl (Nat.le_of_ble_eq_true rfl) dX7_policyFrom_26 (fun r u H locs hp Y => ?_)
      obtain ⟨rfl, rfl⟩ := hp
      have e9 : (f_X7_policyFrom7 k y) = (((f_X7_setsPolicy k (0 : Int32)).1), (f_X7_setsPolicy k (0 : Int32)).2) := (if_pos c_9).trans ((if_neg c_21).trans (rfl))
      exact r_iret E Y hr hk ((f_X7_setsPolicy k (0 : Int32)).1) ((f_X7_setsPolicy k (0 : Int32)).2) (pr_of e9) rfl ⟨Nat.le_of_ble_eq_true rfl, Nat.le_of_ble_eq_true rfl⟩ dX7_policyFrom_29

def f_X7_capFrom4 (k : Cf) (y : Ky) : Int32 × Cf := if (f_X7_numberFrom4 y) = (-6 : Int32) then ((-5 : Int32), k) else (if (f_X7_numberFrom4 y) < (5 : Int32) then (if (k.1 10) = (f_X7_numberFrom4 y) then ((0 : Int32), (upd (k.1) 10 (f_X7_numberFrom4 y), k.2.1, k.2.2.1, k.2.2.2.1, k.2.2.2.2)) else ((1 : Int32), (upd (k.1) 10 (f_X7_numberFrom4 y), k.2.1, k.2.2.1, k.2.2.2.1, k.2.2.2.2))) else ((-2 : Int32), k))
set_option maxRecDepth 100000 in
set_option maxHeartbeats 4000000 in
theorem c_X7_capFrom4 {l : Launch} {D : va_G} {cI cB : ClassId} (qm mb ma me mr mn ms mk : Nat) (k : Cf) (v : Fn) (a : Fn) (y : Ky) (yO : btw (y.1 1) 0 16) : CI l X0 D cI cB yX7_capFrom cX7_capFrom 4 (some .int) 2 43 0 0 [.ref qm, .int (4 : Int32)] (wM cI qm mb ma me mr mn ms mk k v a y) (fun (r : Int32) (u : Cf) => r = (f_X7_capFrom4 k y).1 ∧ u = (f_X7_capFrom4 k y).2) (fun u => (wM cI qm mb ma me mr mn ms mk u v a y)) := by
  refine CI.of (by decide) (Nat.le_of_ble_eq_true rfl) ?_
  intro p e s m below meth c A ls E hr hk hin hA hAA hX Y hl
  have E : EE p c cX7_capFrom 4 s _ m RX7 D cI cB := E
  have hl : lv_has ls 4 [(0, .ref qm), (1, .int (4 : Int32))] := hl
  refine lv_aload_n E.1.1 E.1.2.1 dX7_capFrom_0 rfl (lv_at hl 0 rfl) ?_
  refine lv_iload_n E.1.1 E.1.2.1 dX7_capFrom_1 rfl (lv_at hl 1 rfl) ?_
  refine r_Vi (wr := []) (w2 := fun _ => [(qm, .inr (9, [.int (k.1 0), .int (k.1 1), .ref ma, .int (k.1 2), .ref mb, .int (k.1 3), .ref me, .ref mr, .int (k.1 4), .int (k.1 5), .int (k.1 6), .int (k.1 7), .int (k.1 8), .int (k.1 9), .int (k.1 10), .ref mn, .ref ms, .int (y.1 0), .ref mk, .int (y.1 1)])), (mb, .inl (cI, 5, .inl k.2.1)), (ma, .inl (cI, 30, .inl k.2.2.1)), (me, .inl (cI, 12, .inl k.2.2.2.1)), (mr, .inl (cI, 12, .inl k.2.2.2.2)), (mn, .inl (cI, 52, .inl v)), (ms, .inl (cI, 52, .inl a)), (mk, .inl (cI, 16, .inl y.2))]) E Y hA hl.1 (c_X7_numberFrom4 qm mb ma me mr mn ms mk k v a y yO) lk_X7_101 X0b (fun _ _ _ => trivial) [0, 1, 2, 3, 4, 5, 6, 7] [] [0, 1, 2, 3, 4, 5, 6, 7] rfl rfl (by decide) (fun _ => rfl) 0 rfl rfl ⟨Nat.le_of_ble_eq_true rfl, Nat.le_of_ble_eq_true rfl⟩ ⟨Nat.le_of_ble_eq_true rfl, Nat.le_of_ble_eq_true rfl⟩ rfl rfl (Nat.le_of_ble_eq_true rfl) dX7_capFrom_2 (fun r u H locs hp Y => ?_)
  subst hp
  refine lv_istore_n (lv' := [(2, .int (f_X7_numberFrom4 y)), (0, .ref qm), (1, .int (4 : Int32))]) E.1.1 E.1.2.1 dX7_capFrom_5 rfl hl (by decide) rfl (fun ls hl => ?_)
  refine lv_iload_n E.1.1 E.1.2.1 dX7_capFrom_6 rfl (lv_at hl 0 rfl) ?_
  refine lv_bipush (v := (-6)) E.1.1 E.1.2.1 dX7_capFrom_7 (by decide) ?_
  refine lv_icmp_ne (tgt := 15) E.1.1 E.1.2.1 dX7_capFrom_9 (by decide) (fun c_9 => ?_) (fun c_9 => ?_)
  · skip
    refine lv_iload_n E.1.1 E.1.2.1 dX7_capFrom_15 rfl (lv_at hl 0 rfl) ?_
    refine lv_iconst (v := 5) E.1.1 E.1.2.1 dX7_capFrom_16 (by decide) ?_
    refine lv_icmp_lt (tgt := 23) E.1.1 E.1.2.1 dX7_capFrom_17 (by decide) (fun c_17 => ?_) (fun c_17 => ?_)
    · skip
      refine lv_aload_n E.1.1 E.1.2.1 dX7_capFrom_23 rfl (lv_at hl 1 rfl) ?_
      refine gf_X7_44 E Y 0 rfl rfl dX7_capFrom_24 ?_
      refine lv_iload_n E.1.1 E.1.2.1 dX7_capFrom_27 rfl (lv_at hl 0 rfl) ?_
      refine lv_icmp_ne (tgt := 35) E.1.1 E.1.2.1 dX7_capFrom_28 (by decide) (fun c_28 => ?_) (fun c_28 => ?_)
      · skip
        refine lv_iconst (v := 1) E.1.1 E.1.2.1 dX7_capFrom_35 (by decide) ?_
        refine lv_istore_n (lv' := [(3, .int (1 : Int32)), (2, .int (f_X7_numberFrom4 y)), (0, .ref qm), (1, .int (4 : Int32))]) E.1.1 E.1.2.1 dX7_capFrom_36 rfl hl (by decide) rfl (fun ls hl => ?_)
        refine lv_aload_n E.1.1 E.1.2.1 dX7_capFrom_37 rfl (lv_at hl 2 rfl) ?_
        refine lv_iload_n E.1.1 E.1.2.1 dX7_capFrom_38 rfl (lv_at hl 1 rfl) ?_
        refine pf_X7_44 (w' := [(qm, .inr (9, [.int (k.1 0), .int (k.1 1), .ref ma, .int (k.1 2), .ref mb, .int (k.1 3), .ref me, .ref mr, .int (k.1 4), .int (k.1 5), .int (k.1 6), .int (k.1 7), .int (k.1 8), .int (k.1 9), .int (f_X7_numberFrom4 y), .ref mn, .ref ms, .int (y.1 0), .ref mk, .int (y.1 1)])), (mb, .inl (cI, 5, .inl k.2.1)), (ma, .inl (cI, 30, .inl k.2.2.1)), (me, .inl (cI, 12, .inl k.2.2.2.1)), (mr, .inl (cI, 12, .inl k.2.2.2.2)), (mn, .inl (cI, 52, .inl v)), (ms, .inl (cI, 52, .inl a)), (mk, .inl (cI, 16, .inl y.2))]) E Y 0 rfl (Nat.le_of_ble_eq_true rfl) rfl dX7_capFrom_39 (fun H locs Y => ?_)
        refine lv_iload_n E.1.1 E.1.2.1 dX7_capFrom_42 rfl (lv_at hl 0 rfl) ?_
        have e9 : (f_X7_capFrom4 k y) = ((1 : Int32), (upd (k.1) 10 (f_X7_numberFrom4 y), k.2.1, k.2.2.1, k.2.2.2.1, k.2.2.2.2)) := (if_neg c_9).trans ((if_pos c_17).trans ((if_neg c_28).trans (rfl)))
        exact r_iret E Y hr hk (1 : Int32) (upd (k.1) 10 (f_X7_numberFrom4 y), k.2.1, k.2.2.1, k.2.2.2.1, k.2.2.2.2) (pr_of e9) rfl ⟨Nat.le_of_ble_eq_true rfl, Nat.le_of_ble_eq_true rfl⟩ dX7_capFrom_43
      · skip
        refine lv_iconst (v := 0) E.1.1 E.1.2.1 dX7_capFrom_31 (by decide) ?_
        refine lv_goto (tgt := 36) E.1.1 E.1.2.1 dX7_capFrom_32 (by decide) ?_
        refine lv_istore_n (lv' := [(3, .int (0 : Int32)), (2, .int (f_X7_numberFrom4 y)), (0, .ref qm), (1, .int (4 : Int32))]) E.1.1 E.1.2.1 dX7_capFrom_36 rfl hl (by decide) rfl (fun ls hl => ?_)
        refine lv_aload_n E.1.1 E.1.2.1 dX7_capFrom_37 rfl (lv_at hl 2 rfl) ?_
        refine lv_iload_n E.1.1 E.1.2.1 dX7_capFrom_38 rfl (lv_at hl 1 rfl) ?_
        refine pf_X7_44 (w' := [(qm, .inr (9, [.int (k.1 0), .int (k.1 1), .ref ma, .int (k.1 2), .ref mb, .int (k.1 3), .ref me, .ref mr, .int (k.1 4), .int (k.1 5), .int (k.1 6), .int (k.1 7), .int (k.1 8), .int (k.1 9), .int (f_X7_numberFrom4 y), .ref mn, .ref ms, .int (y.1 0), .ref mk, .int (y.1 1)])), (mb, .inl (cI, 5, .inl k.2.1)), (ma, .inl (cI, 30, .inl k.2.2.1)), (me, .inl (cI, 12, .inl k.2.2.2.1)), (mr, .inl (cI, 12, .inl k.2.2.2.2)), (mn, .inl (cI, 52, .inl v)), (ms, .inl (cI, 52, .inl a)), (mk, .inl (cI, 16, .inl y.2))]) E Y 0 rfl (Nat.le_of_ble_eq_true rfl) rfl dX7_capFrom_39 (fun H locs Y => ?_)
        refine lv_iload_n E.1.1 E.1.2.1 dX7_capFrom_42 rfl (lv_at hl 0 rfl) ?_
        have e9 : (f_X7_capFrom4 k y) = ((0 : Int32), (upd (k.1) 10 (f_X7_numberFrom4 y), k.2.1, k.2.2.1, k.2.2.2.1, k.2.2.2.2)) := (if_neg c_9).trans ((if_pos c_17).trans ((if_pos c_28).trans (rfl)))
        exact r_iret E Y hr hk (0 : Int32) (upd (k.1) 10 (f_X7_numberFrom4 y), k.2.1, k.2.2.1, k.2.2.2.1, k.2.2.2.2) (pr_of e9) rfl ⟨Nat.le_of_ble_eq_true rfl, Nat.le_of_ble_eq_true rfl⟩ dX7_capFrom_43
    · skip
      refine lv_bipush (v := (-2)) E.1.1 E.1.2.1 dX7_capFrom_20 (by decide) ?_
      have e9 : (f_X7_capFrom4 k y) = ((-2 : Int32), k) := (if_neg c_9).trans ((if_neg c_17).trans (rfl))
      exact r_iret E Y hr hk (-2 : Int32) k (pr_of e9) rfl ⟨Nat.le_of_ble_eq_true rfl, Nat.le_of_ble_eq_true rfl⟩ dX7_capFrom_22
  · skip
    refine lv_bipush (v := (-5)) E.1.1 E.1.2.1 dX7_capFrom_12 (by decide) ?_
    have e9 : (f_X7_capFrom4 k y) = ((-5 : Int32), k) := (if_pos c_9).trans (rfl)
    exact r_iret E Y hr hk (-5 : Int32) k (pr_of e9) rfl ⟨Nat.le_of_ble_eq_true rfl, Nat.le_of_ble_eq_true rfl⟩ dX7_capFrom_14

def f_X7_seekFrom5 (k : Cf) (v : Fn) (y : Ky) : Int32 × Fn := if (f_X7_numberFrom5 y) = (-6 : Int32) then ((-5 : Int32), v) else (if (f_X7_numberFrom5 y) < (k.1 0) then ((1 : Int32), (upd (upd (upd (upd (upd (upd v (6) (0 : Int32)) (1) (0 : Int32)) (5) (f_X7_numberFrom5 y)) (2) ((f_X7_numberFrom5 y) * (k.1 1))) (3) (0 : Int32)) (11) (0 : Int32))) else ((-2 : Int32), v))
set_option maxRecDepth 100000 in
set_option maxHeartbeats 4000000 in
theorem c_X7_seekFrom5 {l : Launch} {D : va_G} {cI cB : ClassId} (qm mb ma me mr mn ms mk : Nat) (k : Cf) (v : Fn) (a : Fn) (y : Ky) (yO : btw (y.1 1) 0 16) : CI l X0 D cI cB yX7_seekFrom cX7_seekFrom 3 (some .int) 2 43 0 0 [.ref qm, .int (5 : Int32)] (wM cI qm mb ma me mr mn ms mk k v a y) (fun (r : Int32) (u : Fn) => r = (f_X7_seekFrom5 k v y).1 ∧ u = (f_X7_seekFrom5 k v y).2) (fun u => (wM cI qm mb ma me mr mn ms mk k u a y)) := by
  refine CI.of (by decide) (Nat.le_of_ble_eq_true rfl) ?_
  intro p e s m below meth c A ls E hr hk hin hA hAA hX Y hl
  have E : EE p c cX7_seekFrom 3 s _ m RX7 D cI cB := E
  have hl : lv_has ls 3 [(0, .ref qm), (1, .int (5 : Int32))] := hl
  refine lv_aload_n E.1.1 E.1.2.1 dX7_seekFrom_0 rfl (lv_at hl 0 rfl) ?_
  refine lv_iload_n E.1.1 E.1.2.1 dX7_seekFrom_1 rfl (lv_at hl 1 rfl) ?_
  refine r_Vi (wr := []) (w2 := fun _ => [(qm, .inr (9, [.int (k.1 0), .int (k.1 1), .ref ma, .int (k.1 2), .ref mb, .int (k.1 3), .ref me, .ref mr, .int (k.1 4), .int (k.1 5), .int (k.1 6), .int (k.1 7), .int (k.1 8), .int (k.1 9), .int (k.1 10), .ref mn, .ref ms, .int (y.1 0), .ref mk, .int (y.1 1)])), (mb, .inl (cI, 5, .inl k.2.1)), (ma, .inl (cI, 30, .inl k.2.2.1)), (me, .inl (cI, 12, .inl k.2.2.2.1)), (mr, .inl (cI, 12, .inl k.2.2.2.2)), (mn, .inl (cI, 52, .inl v)), (ms, .inl (cI, 52, .inl a)), (mk, .inl (cI, 16, .inl y.2))]) E Y hA hl.1 (c_X7_numberFrom5 qm mb ma me mr mn ms mk k v a y yO) lk_X7_101 X0b (fun _ _ _ => trivial) [0, 1, 2, 3, 4, 5, 6, 7] [] [0, 1, 2, 3, 4, 5, 6, 7] rfl rfl (by decide) (fun _ => rfl) 0 rfl rfl ⟨Nat.le_of_ble_eq_true rfl, Nat.le_of_ble_eq_true rfl⟩ ⟨Nat.le_of_ble_eq_true rfl, Nat.le_of_ble_eq_true rfl⟩ rfl rfl (Nat.le_of_ble_eq_true rfl) dX7_seekFrom_2 (fun r u H locs hp Y => ?_)
  subst hp
  refine lv_istore_n (lv' := [(2, .int (f_X7_numberFrom5 y)), (0, .ref qm), (1, .int (5 : Int32))]) E.1.1 E.1.2.1 dX7_seekFrom_5 rfl hl (by decide) rfl (fun ls hl => ?_)
  refine lv_iload_n E.1.1 E.1.2.1 dX7_seekFrom_6 rfl (lv_at hl 0 rfl) ?_
  refine lv_bipush (v := (-6)) E.1.1 E.1.2.1 dX7_seekFrom_7 (by decide) ?_
  refine lv_icmp_ne (tgt := 15) E.1.1 E.1.2.1 dX7_seekFrom_9 (by decide) (fun c_9 => ?_) (fun c_9 => ?_)
  · skip
    refine lv_iload_n E.1.1 E.1.2.1 dX7_seekFrom_15 rfl (lv_at hl 0 rfl) ?_
    refine lv_aload_n E.1.1 E.1.2.1 dX7_seekFrom_16 rfl (lv_at hl 1 rfl) ?_
    refine gf_X7_7 E Y 0 rfl rfl dX7_seekFrom_17 ?_
    refine lv_icmp_lt (tgt := 26) E.1.1 E.1.2.1 dX7_seekFrom_20 (by decide) (fun c_20 => ?_) (fun c_20 => ?_)
    · skip
      refine lv_aload_n E.1.1 E.1.2.1 dX7_seekFrom_26 rfl (lv_at hl 1 rfl) ?_
      refine gf_X7_47 E Y 0 rfl rfl dX7_seekFrom_27 ?_
      refine lv_bipush (v := 6) E.1.1 E.1.2.1 dX7_seekFrom_30 (by decide) ?_
      refine lv_iconst (v := 0) E.1.1 E.1.2.1 dX7_seekFrom_32 (by decide) ?_
      refine r_ias (w' := [(qm, .inr (9, [.int (k.1 0), .int (k.1 1), .ref ma, .int (k.1 2), .ref mb, .int (k.1 3), .ref me, .ref mr, .int (k.1 4), .int (k.1 5), .int (k.1 6), .int (k.1 7), .int (k.1 8), .int (k.1 9), .int (k.1 10), .ref mn, .ref ms, .int (y.1 0), .ref mk, .int (y.1 1)])), (mb, .inl (cI, 5, .inl k.2.1)), (ma, .inl (cI, 30, .inl k.2.2.1)), (me, .inl (cI, 12, .inl k.2.2.2.1)), (mr, .inl (cI, 12, .inl k.2.2.2.2)), (mn, .inl (cI, 52, .inl (upd v (6) (0 : Int32)))), (ms, .inl (cI, 52, .inl a)), (mk, .inl (cI, 16, .inl y.2))]) E Y 5 rfl (6) (by decide) (by unfold vp_in; decide) rfl dX7_seekFrom_33 (fun H locs Y => ?_)
      refine lv_aload_n E.1.1 E.1.2.1 dX7_seekFrom_34 rfl (lv_at hl 1 rfl) ?_
      refine gf_X7_47 E Y 0 rfl rfl dX7_seekFrom_35 ?_
      refine lv_iconst (v := 1) E.1.1 E.1.2.1 dX7_seekFrom_38 (by decide) ?_
      refine lv_iconst (v := 0) E.1.1 E.1.2.1 dX7_seekFrom_39 (by decide) ?_
      refine r_ias (w' := [(qm, .inr (9, [.int (k.1 0), .int (k.1 1), .ref ma, .int (k.1 2), .ref mb, .int (k.1 3), .ref me, .ref mr, .int (k.1 4), .int (k.1 5), .int (k.1 6), .int (k.1 7), .int (k.1 8), .int (k.1 9), .int (k.1 10), .ref mn, .ref ms, .int (y.1 0), .ref mk, .int (y.1 1)])), (mb, .inl (cI, 5, .inl k.2.1)), (ma, .inl (cI, 30, .inl k.2.2.1)), (me, .inl (cI, 12, .inl k.2.2.2.1)), (mr, .inl (cI, 12, .inl k.2.2.2.2)), (mn, .inl (cI, 52, .inl (upd (upd v (6) (0 : Int32)) (1) (0 : Int32)))), (ms, .inl (cI, 52, .inl a)), (mk, .inl (cI, 16, .inl y.2))]) E Y 5 rfl (1) (by decide) (by unfold vp_in; decide) rfl dX7_seekFrom_40 (fun H locs Y => ?_)
      refine lv_aload_n E.1.1 E.1.2.1 dX7_seekFrom_41 rfl (lv_at hl 1 rfl) ?_
      refine gf_X7_47 E Y 0 rfl rfl dX7_seekFrom_42 ?_
      refine lv_iconst (v := 5) E.1.1 E.1.2.1 dX7_seekFrom_45 (by decide) ?_
      refine lv_iload_n E.1.1 E.1.2.1 dX7_seekFrom_46 rfl (lv_at hl 0 rfl) ?_
      refine r_ias (w' := [(qm, .inr (9, [.int (k.1 0), .int (k.1 1), .ref ma, .int (k.1 2), .ref mb, .int (k.1 3), .ref me, .ref mr, .int (k.1 4), .int (k.1 5), .int (k.1 6), .int (k.1 7), .int (k.1 8), .int (k.1 9), .int (k.1 10), .ref mn, .ref ms, .int (y.1 0), .ref mk, .int (y.1 1)])), (mb, .inl (cI, 5, .inl k.2.1)), (ma, .inl (cI, 30, .inl k.2.2.1)), (me, .inl (cI, 12, .inl k.2.2.2.1)), (mr, .inl (cI, 12, .inl k.2.2.2.2)), (mn, .inl (cI, 52, .inl (upd (upd (upd v (6) (0 : Int32)) (1) (0 : Int32)) (5) (f_X7_numberFrom5 y)))), (ms, .inl (cI, 52, .inl a)), (mk, .inl (cI, 16, .inl y.2))]) E Y 5 rfl (5) (by decide) (by unfold vp_in; decide) rfl dX7_seekFrom_47 (fun H locs Y => ?_)
      refine lv_aload_n E.1.1 E.1.2.1 dX7_seekFrom_48 rfl (lv_at hl 1 rfl) ?_
      refine gf_X7_47 E Y 0 rfl rfl dX7_seekFrom_49 ?_
      refine lv_iconst (v := 2) E.1.1 E.1.2.1 dX7_seekFrom_52 (by decide) ?_
      refine lv_iload_n E.1.1 E.1.2.1 dX7_seekFrom_53 rfl (lv_at hl 0 rfl) ?_
      refine lv_aload_n E.1.1 E.1.2.1 dX7_seekFrom_54 rfl (lv_at hl 1 rfl) ?_
      refine gf_X7_13 E Y 0 rfl rfl dX7_seekFrom_55 ?_
      refine lv_imul E.1.1 E.1.2.1 dX7_seekFrom_58 ?_
      refine r_ias (w' := [(qm, .inr (9, [.int (k.1 0), .int (k.1 1), .ref ma, .int (k.1 2), .ref mb, .int (k.1 3), .ref me, .ref mr, .int (k.1 4), .int (k.1 5), .int (k.1 6), .int (k.1 7), .int (k.1 8), .int (k.1 9), .int (k.1 10), .ref mn, .ref ms, .int (y.1 0), .ref mk, .int (y.1 1)])), (mb, .inl (cI, 5, .inl k.2.1)), (ma, .inl (cI, 30, .inl k.2.2.1)), (me, .inl (cI, 12, .inl k.2.2.2.1)), (mr, .inl (cI, 12, .inl k.2.2.2.2)), (mn, .inl (cI, 52, .inl (upd (upd (upd (upd v (6) (0 : Int32)) (1) (0 : Int32)) (5) (f_X7_numberFrom5 y)) (2) ((f_X7_numberFrom5 y) * (k.1 1))))), (ms, .inl (cI, 52, .inl a)), (mk, .inl (cI, 16, .inl y.2))]) E Y 5 rfl (2) (by decide) (by unfold vp_in; decide) rfl dX7_seekFrom_59 (fun H locs Y => ?_)
      refine lv_aload_n E.1.1 E.1.2.1 dX7_seekFrom_60 rfl (lv_at hl 1 rfl) ?_
      refine gf_X7_47 E Y 0 rfl rfl dX7_seekFrom_61 ?_
      refine lv_iconst (v := 3) E.1.1 E.1.2.1 dX7_seekFrom_64 (by decide) ?_
      refine lv_iconst (v := 0) E.1.1 E.1.2.1 dX7_seekFrom_65 (by decide) ?_
      refine r_ias (w' := [(qm, .inr (9, [.int (k.1 0), .int (k.1 1), .ref ma, .int (k.1 2), .ref mb, .int (k.1 3), .ref me, .ref mr, .int (k.1 4), .int (k.1 5), .int (k.1 6), .int (k.1 7), .int (k.1 8), .int (k.1 9), .int (k.1 10), .ref mn, .ref ms, .int (y.1 0), .ref mk, .int (y.1 1)])), (mb, .inl (cI, 5, .inl k.2.1)), (ma, .inl (cI, 30, .inl k.2.2.1)), (me, .inl (cI, 12, .inl k.2.2.2.1)), (mr, .inl (cI, 12, .inl k.2.2.2.2)), (mn, .inl (cI, 52, .inl (upd (upd (upd (upd (upd v (6) (0 : Int32)) (1) (0 : Int32)) (5) (f_X7_numberFrom5 y)) (2) ((f_X7_numberFrom5 y) * (k.1 1))) (3) (0 : Int32)))), (ms, .inl (cI, 52, .inl a)), (mk, .inl (cI, 16, .inl y.2))]) E Y 5 rfl (3) (by decide) (by unfold vp_in; decide) rfl dX7_seekFrom_66 (fun H locs Y => ?_)
      refine lv_aload_n E.1.1 E.1.2.1 dX7_seekFrom_67 rfl (lv_at hl 1 rfl) ?_
      refine gf_X7_47 E Y 0 rfl rfl dX7_seekFrom_68 ?_
      refine lv_bipush (v := 11) E.1.1 E.1.2.1 dX7_seekFrom_71 (by decide) ?_
      refine lv_iconst (v := 0) E.1.1 E.1.2.1 dX7_seekFrom_73 (by decide) ?_
      refine r_ias (w' := [(qm, .inr (9, [.int (k.1 0), .int (k.1 1), .ref ma, .int (k.1 2), .ref mb, .int (k.1 3), .ref me, .ref mr, .int (k.1 4), .int (k.1 5), .int (k.1 6), .int (k.1 7), .int (k.1 8), .int (k.1 9), .int (k.1 10), .ref mn, .ref ms, .int (y.1 0), .ref mk, .int (y.1 1)])), (mb, .inl (cI, 5, .inl k.2.1)), (ma, .inl (cI, 30, .inl k.2.2.1)), (me, .inl (cI, 12, .inl k.2.2.2.1)), (mr, .inl (cI, 12, .inl k.2.2.2.2)), (mn, .inl (cI, 52, .inl (upd (upd (upd (upd (upd (upd v (6) (0 : Int32)) (1) (0 : Int32)) (5) (f_X7_numberFrom5 y)) (2) ((f_X7_numberFrom5 y) * (k.1 1))) (3) (0 : Int32)) (11) (0 : Int32)))), (ms, .inl (cI, 52, .inl a)), (mk, .inl (cI, 16, .inl y.2))]) E Y 5 rfl (11) (by decide) (by unfold vp_in; decide) rfl dX7_seekFrom_74 (fun H locs Y => ?_)
      refine lv_iconst (v := 1) E.1.1 E.1.2.1 dX7_seekFrom_75 (by decide) ?_
      have e9 : (f_X7_seekFrom5 k v y) = ((1 : Int32), (upd (upd (upd (upd (upd (upd v (6) (0 : Int32)) (1) (0 : Int32)) (5) (f_X7_numberFrom5 y)) (2) ((f_X7_numberFrom5 y) * (k.1 1))) (3) (0 : Int32)) (11) (0 : Int32))) := (if_neg c_9).trans ((if_pos c_20).trans (rfl))
      exact r_iret E Y hr hk (1 : Int32) (upd (upd (upd (upd (upd (upd v (6) (0 : Int32)) (1) (0 : Int32)) (5) (f_X7_numberFrom5 y)) (2) ((f_X7_numberFrom5 y) * (k.1 1))) (3) (0 : Int32)) (11) (0 : Int32)) (pr_of e9) rfl ⟨Nat.le_of_ble_eq_true rfl, Nat.le_of_ble_eq_true rfl⟩ dX7_seekFrom_76
    · skip
      refine lv_bipush (v := (-2)) E.1.1 E.1.2.1 dX7_seekFrom_23 (by decide) ?_
      have e9 : (f_X7_seekFrom5 k v y) = ((-2 : Int32), v) := (if_neg c_9).trans ((if_neg c_20).trans (rfl))
      exact r_iret E Y hr hk (-2 : Int32) v (pr_of e9) rfl ⟨Nat.le_of_ble_eq_true rfl, Nat.le_of_ble_eq_true rfl⟩ dX7_seekFrom_25
  · skip
    refine lv_bipush (v := (-5)) E.1.1 E.1.2.1 dX7_seekFrom_12 (by decide) ?_
    have e9 : (f_X7_seekFrom5 k v y) = ((-5 : Int32), v) := (if_pos c_9).trans (rfl)
    exact r_iret E Y hr hk (-5 : Int32) v (pr_of e9) rfl ⟨Nat.le_of_ble_eq_true rfl, Nat.le_of_ble_eq_true rfl⟩ dX7_seekFrom_14

def f_X7_pauses (v : Fn) (p0 : Int32) : Int32 × Fn := if (v (4)) = p0 then ((0 : Int32), (upd v (4) p0)) else ((1 : Int32), (upd v (4) p0))
set_option maxRecDepth 100000 in
set_option maxHeartbeats 4000000 in
theorem c_X7_pauses {l : Launch} {D : va_G} {cI cB : ClassId} (qm mb ma me mr mn ms mk : Nat) (k : Cf) (v : Fn) (a : Fn) (y : Ky) (p0 : Int32) : CI l X0 D cI cB yX7_pauses cX7_pauses 3 (some .int) 0 0 0 0 [.ref qm, .int p0] (wM cI qm mb ma me mr mn ms mk k v a y) (fun (r : Int32) (u : Fn) => r = (f_X7_pauses v p0).1 ∧ u = (f_X7_pauses v p0).2) (fun u => (wM cI qm mb ma me mr mn ms mk k u a y)) := by
  refine CI.of (by decide) (Nat.le_of_ble_eq_true rfl) ?_
  intro p e s m below meth c A ls E hr hk hin hA hAA hX Y hl
  have E : EE p c cX7_pauses 3 s _ m RX7 D cI cB := E
  have hl : lv_has ls 3 [(0, .ref qm), (1, .int p0)] := hl
  refine lv_aload_n E.1.1 E.1.2.1 dX7_pauses_0 rfl (lv_at hl 0 rfl) ?_
  refine gf_X7_47 E Y 0 rfl rfl dX7_pauses_1 ?_
  refine lv_iconst (v := 4) E.1.1 E.1.2.1 dX7_pauses_4 (by decide) ?_
  refine r_ial E Y 5 rfl (4) (by decide) (by unfold vp_in; decide) dX7_pauses_5 ?_
  refine lv_iload_n E.1.1 E.1.2.1 dX7_pauses_6 rfl (lv_at hl 1 rfl) ?_
  refine lv_icmp_ne (tgt := 14) E.1.1 E.1.2.1 dX7_pauses_7 (by decide) (fun c_7 => ?_) (fun c_7 => ?_)
  · skip
    refine lv_iconst (v := 1) E.1.1 E.1.2.1 dX7_pauses_14 (by decide) ?_
    refine lv_istore_n (lv' := [(2, .int (1 : Int32)), (0, .ref qm), (1, .int p0)]) E.1.1 E.1.2.1 dX7_pauses_15 rfl hl (by decide) rfl (fun ls hl => ?_)
    refine lv_aload_n E.1.1 E.1.2.1 dX7_pauses_16 rfl (lv_at hl 1 rfl) ?_
    refine gf_X7_47 E Y 0 rfl rfl dX7_pauses_17 ?_
    refine lv_iconst (v := 4) E.1.1 E.1.2.1 dX7_pauses_20 (by decide) ?_
    refine lv_iload_n E.1.1 E.1.2.1 dX7_pauses_21 rfl (lv_at hl 2 rfl) ?_
    refine r_ias (w' := [(qm, .inr (9, [.int (k.1 0), .int (k.1 1), .ref ma, .int (k.1 2), .ref mb, .int (k.1 3), .ref me, .ref mr, .int (k.1 4), .int (k.1 5), .int (k.1 6), .int (k.1 7), .int (k.1 8), .int (k.1 9), .int (k.1 10), .ref mn, .ref ms, .int (y.1 0), .ref mk, .int (y.1 1)])), (mb, .inl (cI, 5, .inl k.2.1)), (ma, .inl (cI, 30, .inl k.2.2.1)), (me, .inl (cI, 12, .inl k.2.2.2.1)), (mr, .inl (cI, 12, .inl k.2.2.2.2)), (mn, .inl (cI, 52, .inl (upd v (4) p0))), (ms, .inl (cI, 52, .inl a)), (mk, .inl (cI, 16, .inl y.2))]) E Y 5 rfl (4) (by decide) (by unfold vp_in; decide) rfl dX7_pauses_22 (fun H locs Y => ?_)
    refine lv_iload_n E.1.1 E.1.2.1 dX7_pauses_23 rfl (lv_at hl 0 rfl) ?_
    have e9 : (f_X7_pauses v p0) = ((1 : Int32), (upd v (4) p0)) := (if_neg c_7).trans (rfl)
    exact r_iret E Y hr hk (1 : Int32) (upd v (4) p0) (pr_of e9) rfl ⟨Nat.le_of_ble_eq_true rfl, Nat.le_of_ble_eq_true rfl⟩ dX7_pauses_24
  · skip
    refine lv_iconst (v := 0) E.1.1 E.1.2.1 dX7_pauses_10 (by decide) ?_
    refine lv_goto (tgt := 15) E.1.1 E.1.2.1 dX7_pauses_11 (by decide) ?_
    refine lv_istore_n (lv' := [(2, .int (0 : Int32)), (0, .ref qm), (1, .int p0)]) E.1.1 E.1.2.1 dX7_pauses_15 rfl hl (by decide) rfl (fun ls hl => ?_)
    refine lv_aload_n E.1.1 E.1.2.1 dX7_pauses_16 rfl (lv_at hl 1 rfl) ?_
    refine gf_X7_47 E Y 0 rfl rfl dX7_pauses_17 ?_
    refine lv_iconst (v := 4) E.1.1 E.1.2.1 dX7_pauses_20 (by decide) ?_
    refine lv_iload_n E.1.1 E.1.2.1 dX7_pauses_21 rfl (lv_at hl 2 rfl) ?_
    refine r_ias (w' := [(qm, .inr (9, [.int (k.1 0), .int (k.1 1), .ref ma, .int (k.1 2), .ref mb, .int (k.1 3), .ref me, .ref mr, .int (k.1 4), .int (k.1 5), .int (k.1 6), .int (k.1 7), .int (k.1 8), .int (k.1 9), .int (k.1 10), .ref mn, .ref ms, .int (y.1 0), .ref mk, .int (y.1 1)])), (mb, .inl (cI, 5, .inl k.2.1)), (ma, .inl (cI, 30, .inl k.2.2.1)), (me, .inl (cI, 12, .inl k.2.2.2.1)), (mr, .inl (cI, 12, .inl k.2.2.2.2)), (mn, .inl (cI, 52, .inl (upd v (4) p0))), (ms, .inl (cI, 52, .inl a)), (mk, .inl (cI, 16, .inl y.2))]) E Y 5 rfl (4) (by decide) (by unfold vp_in; decide) rfl dX7_pauses_22 (fun H locs Y => ?_)
    refine lv_iload_n E.1.1 E.1.2.1 dX7_pauses_23 rfl (lv_at hl 0 rfl) ?_
    have e9 : (f_X7_pauses v p0) = ((0 : Int32), (upd v (4) p0)) := (if_pos c_7).trans (rfl)
    exact r_iret E Y hr hk (0 : Int32) (upd v (4) p0) (pr_of e9) rfl ⟨Nat.le_of_ble_eq_true rfl, Nat.le_of_ble_eq_true rfl⟩ dX7_pauses_24

def f_X7_runCommand (k : Cf) (v : Fn) (y : Ky) : Int32 × Cf × Fn × Ky := if (f_X7_has_policy (upd (upd (y.1) 1 (y.1 0)) 0 (0 : Int32), y.2)) = 0 then (if (f_X7_has_cap (upd (upd (y.1) 1 (y.1 0)) 0 (0 : Int32), y.2)) = 0 then (if (f_X7_has_seek (upd (upd (y.1) 1 (y.1 0)) 0 (0 : Int32), y.2)) = 0 then (if (y.1 0) = (5 : Int32) then (if (f_X7_has_pause (upd (upd (y.1) 1 (y.1 0)) 0 (0 : Int32), y.2)) = 0 then (if (y.1 0) = (4 : Int32) then (if (f_X7_has_play (upd (upd (y.1) 1 (y.1 0)) 0 (0 : Int32), y.2)) = 0 then ((-5 : Int32), k, v, (upd (upd (y.1) 1 (y.1 0)) 0 (0 : Int32), y.2)) else (((f_X7_pauses v (0 : Int32)).1), k, (f_X7_pauses v (0 : Int32)).2, (upd (upd (y.1) 1 (y.1 0)) 0 (0 : Int32), y.2))) else ((-5 : Int32), k, v, (upd (upd (y.1) 1 (y.1 0)) 0 (0 : Int32), y.2))) else (((f_X7_pauses v (1 : Int32)).1), k, (f_X7_pauses v (1 : Int32)).2, (upd (upd (y.1) 1 (y.1 0)) 0 (0 : Int32), y.2))) else (if (y.1 0) = (4 : Int32) then (if (f_X7_has_play (upd (upd (y.1) 1 (y.1 0)) 0 (0 : Int32), y.2)) = 0 then ((-5 : Int32), k, v, (upd (upd (y.1) 1 (y.1 0)) 0 (0 : Int32), y.2)) else (((f_X7_pauses v (0 : Int32)).1), k, (f_X7_pauses v (0 : Int32)).2, (upd (upd (y.1) 1 (y.1 0)) 0 (0 : Int32), y.2))) else ((-5 : Int32), k, v, (upd (upd (y.1) 1 (y.1 0)) 0 (0 : Int32), y.2)))) else (((f_X7_seekFrom5 k v (upd (upd (y.1) 1 (y.1 0)) 0 (0 : Int32), y.2)).1), k, (f_X7_seekFrom5 k v (upd (upd (y.1) 1 (y.1 0)) 0 (0 : Int32), y.2)).2, (upd (upd (y.1) 1 (y.1 0)) 0 (0 : Int32), y.2))) else (((f_X7_capFrom4 k (upd (upd (y.1) 1 (y.1 0)) 0 (0 : Int32), y.2)).1), (f_X7_capFrom4 k (upd (upd (y.1) 1 (y.1 0)) 0 (0 : Int32), y.2)).2, v, (upd (upd (y.1) 1 (y.1 0)) 0 (0 : Int32), y.2))) else (((f_X7_policyFrom7 k (upd (upd (y.1) 1 (y.1 0)) 0 (0 : Int32), y.2)).1), (f_X7_policyFrom7 k (upd (upd (y.1) 1 (y.1 0)) 0 (0 : Int32), y.2)).2, v, (upd (upd (y.1) 1 (y.1 0)) 0 (0 : Int32), y.2))
set_option maxRecDepth 100000 in
set_option maxHeartbeats 4000000 in
theorem c_X7_runCommand {l : Launch} {D : va_G} {cI cB : ClassId} (qm mb ma me mr mn ms mk : Nat) (k : Cf) (v : Fn) (a : Fn) (y : Ky) (yO : btw (y.1 0) 0 16) : CI l X0 D cI cB yX7_runCommand cX7_runCommand 1 (some .int) 3 66 0 0 [.ref qm] (wM cI qm mb ma me mr mn ms mk k v a y) (fun (r : Int32) (u : Cf × Fn × Ky) => r = (f_X7_runCommand k v y).1 ∧ u = (f_X7_runCommand k v y).2) (fun u => (wM cI qm mb ma me mr mn ms mk (u.1) (u.2.1) a (u.2.2))) := by
  refine CI.of (by decide) (Nat.le_of_ble_eq_true rfl) ?_
  intro p e s m below meth c A ls E hr hk hin hA hAA hX Y hl
  have E : EE p c cX7_runCommand 1 s _ m RX7 D cI cB := E
  have hl : lv_has ls 1 [(0, .ref qm)] := hl
  refine lv_aload_n E.1.1 E.1.2.1 dX7_runCommand_0 rfl (lv_at hl 0 rfl) ?_
  refine lv_aload_n E.1.1 E.1.2.1 dX7_runCommand_1 rfl (lv_at hl 0 rfl) ?_
  refine gf_X7_70 E Y 0 rfl rfl dX7_runCommand_2 ?_
  refine pf_X7_73 (w' := [(qm, .inr (9, [.int (k.1 0), .int (k.1 1), .ref ma, .int (k.1 2), .ref mb, .int (k.1 3), .ref me, .ref mr, .int (k.1 4), .int (k.1 5), .int (k.1 6), .int (k.1 7), .int (k.1 8), .int (k.1 9), .int (k.1 10), .ref mn, .ref ms, .int (y.1 0), .ref mk, .int (y.1 0)])), (mb, .inl (cI, 5, .inl k.2.1)), (ma, .inl (cI, 30, .inl k.2.2.1)), (me, .inl (cI, 12, .inl k.2.2.2.1)), (mr, .inl (cI, 12, .inl k.2.2.2.2)), (mn, .inl (cI, 52, .inl v)), (ms, .inl (cI, 52, .inl a)), (mk, .inl (cI, 16, .inl y.2))]) E Y 0 rfl (Nat.le_of_ble_eq_true rfl) rfl dX7_runCommand_5 (fun H locs Y => ?_)
  refine lv_aload_n E.1.1 E.1.2.1 dX7_runCommand_8 rfl (lv_at hl 0 rfl) ?_
  refine lv_iconst (v := 0) E.1.1 E.1.2.1 dX7_runCommand_9 (by decide) ?_
  refine pf_X7_70 (w' := [(qm, .inr (9, [.int (k.1 0), .int (k.1 1), .ref ma, .int (k.1 2), .ref mb, .int (k.1 3), .ref me, .ref mr, .int (k.1 4), .int (k.1 5), .int (k.1 6), .int (k.1 7), .int (k.1 8), .int (k.1 9), .int (k.1 10), .ref mn, .ref ms, .int (0 : Int32), .ref mk, .int (y.1 0)])), (mb, .inl (cI, 5, .inl k.2.1)), (ma, .inl (cI, 30, .inl k.2.2.1)), (me, .inl (cI, 12, .inl k.2.2.2.1)), (mr, .inl (cI, 12, .inl k.2.2.2.2)), (mn, .inl (cI, 52, .inl v)), (ms, .inl (cI, 52, .inl a)), (mk, .inl (cI, 16, .inl y.2))]) E Y 0 rfl (Nat.le_of_ble_eq_true rfl) rfl dX7_runCommand_10 (fun H locs Y => ?_)
  refine lv_aload_n E.1.1 E.1.2.1 dX7_runCommand_13 rfl (lv_at hl 0 rfl) ?_
  refine lv_iconst (v := 0) E.1.1 E.1.2.1 dX7_runCommand_14 (by decide) ?_
  refine lv_ldc2 (v := 16151209032527) E.1.1 E.1.2.1 E.1.2.2.2.1 (E.1.2.2.2.2 _ mj_X7_104) dX7_runCommand_15 ?_
  refine lv_bipush (v := 7) E.1.1 E.1.2.1 dX7_runCommand_18 (by decide) ?_
  refine r_Vi (wr := []) (w2 := fun _ => [(qm, .inr (9, [.int (k.1 0), .int (k.1 1), .ref ma, .int (k.1 2), .ref mb, .int (k.1 3), .ref me, .ref mr, .int (k.1 4), .int (k.1 5), .int (k.1 6), .int (k.1 7), .int (k.1 8), .int (k.1 9), .int (k.1 10), .ref mn, .ref ms, .int (0 : Int32), .ref mk, .int (y.1 0)])), (mb, .inl (cI, 5, .inl k.2.1)), (ma, .inl (cI, 30, .inl k.2.2.1)), (me, .inl (cI, 12, .inl k.2.2.2.1)), (mr, .inl (cI, 12, .inl k.2.2.2.2)), (mn, .inl (cI, 52, .inl v)), (ms, .inl (cI, 52, .inl a)), (mk, .inl (cI, 16, .inl y.2))]) E Y hA hl.1 (c_X7_has_policy qm mb ma me mr mn ms mk k v a (upd (upd (y.1) 1 (y.1 0)) 0 (0 : Int32), y.2)) lk_X7_87 X0b (fun _ _ _ => trivial) [0, 1, 2, 3, 4, 5, 6, 7] [] [0, 1, 2, 3, 4, 5, 6, 7] rfl rfl (by decide) (fun _ => rfl) 0 rfl rfl ⟨Nat.le_of_ble_eq_true rfl, Nat.le_of_ble_eq_true rfl⟩ ⟨Nat.le_of_ble_eq_true rfl, Nat.le_of_ble_eq_true rfl⟩ rfl rfl (Nat.le_of_ble_eq_true rfl) dX7_runCommand_20 (fun r u H locs hp Y => ?_)
  subst hp
  refine lv_if_eq (tgt := 33) E.1.1 E.1.2.1 dX7_runCommand_23 (by decide) (fun c_23 => ?_) (fun c_23 => ?_)
  · skip
    refine lv_aload_n E.1.1 E.1.2.1 dX7_runCommand_33 rfl (lv_at hl 0 rfl) ?_
    refine lv_iconst (v := 0) E.1.1 E.1.2.1 dX7_runCommand_34 (by decide) ?_
    refine lv_ldc2 (v := 3011627) E.1.1 E.1.2.1 E.1.2.2.2.1 (E.1.2.2.2.2 _ mj_X7_109) dX7_runCommand_35 ?_
    refine lv_iconst (v := 4) E.1.1 E.1.2.1 dX7_runCommand_38 (by decide) ?_
    refine r_Vi (wr := []) (w2 := fun _ => [(qm, .inr (9, [.int (k.1 0), .int (k.1 1), .ref ma, .int (k.1 2), .ref mb, .int (k.1 3), .ref me, .ref mr, .int (k.1 4), .int (k.1 5), .int (k.1 6), .int (k.1 7), .int (k.1 8), .int (k.1 9), .int (k.1 10), .ref mn, .ref ms, .int (0 : Int32), .ref mk, .int (y.1 0)])), (mb, .inl (cI, 5, .inl k.2.1)), (ma, .inl (cI, 30, .inl k.2.2.1)), (me, .inl (cI, 12, .inl k.2.2.2.1)), (mr, .inl (cI, 12, .inl k.2.2.2.2)), (mn, .inl (cI, 52, .inl v)), (ms, .inl (cI, 52, .inl a)), (mk, .inl (cI, 16, .inl y.2))]) E Y hA hl.1 (c_X7_has_cap qm mb ma me mr mn ms mk k v a (upd (upd (y.1) 1 (y.1 0)) 0 (0 : Int32), y.2)) lk_X7_87 X0b (fun _ _ _ => trivial) [0, 1, 2, 3, 4, 5, 6, 7] [] [0, 1, 2, 3, 4, 5, 6, 7] rfl rfl (by decide) (fun _ => rfl) 0 rfl rfl ⟨Nat.le_of_ble_eq_true rfl, Nat.le_of_ble_eq_true rfl⟩ ⟨Nat.le_of_ble_eq_true rfl, Nat.le_of_ble_eq_true rfl⟩ rfl rfl (Nat.le_of_ble_eq_true rfl) dX7_runCommand_39 (fun r u H locs hp Y => ?_)
    subst hp
    refine lv_if_eq (tgt := 51) E.1.1 E.1.2.1 dX7_runCommand_42 (by decide) (fun c_42 => ?_) (fun c_42 => ?_)
    · skip
      refine lv_aload_n E.1.1 E.1.2.1 dX7_runCommand_51 rfl (lv_at hl 0 rfl) ?_
      refine lv_iconst (v := 0) E.1.1 E.1.2.1 dX7_runCommand_52 (by decide) ?_
      refine lv_ldc2 (v := 1905051127) E.1.1 E.1.2.1 E.1.2.2.2.1 (E.1.2.2.2.2 _ mj_X7_114) dX7_runCommand_53 ?_
      refine lv_iconst (v := 5) E.1.1 E.1.2.1 dX7_runCommand_56 (by decide) ?_
      refine r_Vi (wr := []) (w2 := fun _ => [(qm, .inr (9, [.int (k.1 0), .int (k.1 1), .ref ma, .int (k.1 2), .ref mb, .int (k.1 3), .ref me, .ref mr, .int (k.1 4), .int (k.1 5), .int (k.1 6), .int (k.1 7), .int (k.1 8), .int (k.1 9), .int (k.1 10), .ref mn, .ref ms, .int (0 : Int32), .ref mk, .int (y.1 0)])), (mb, .inl (cI, 5, .inl k.2.1)), (ma, .inl (cI, 30, .inl k.2.2.1)), (me, .inl (cI, 12, .inl k.2.2.2.1)), (mr, .inl (cI, 12, .inl k.2.2.2.2)), (mn, .inl (cI, 52, .inl v)), (ms, .inl (cI, 52, .inl a)), (mk, .inl (cI, 16, .inl y.2))]) E Y hA hl.1 (c_X7_has_seek qm mb ma me mr mn ms mk k v a (upd (upd (y.1) 1 (y.1 0)) 0 (0 : Int32), y.2)) lk_X7_87 X0b (fun _ _ _ => trivial) [0, 1, 2, 3, 4, 5, 6, 7] [] [0, 1, 2, 3, 4, 5, 6, 7] rfl rfl (by decide) (fun _ => rfl) 0 rfl rfl ⟨Nat.le_of_ble_eq_true rfl, Nat.le_of_ble_eq_true rfl⟩ ⟨Nat.le_of_ble_eq_true rfl, Nat.le_of_ble_eq_true rfl⟩ rfl rfl (Nat.le_of_ble_eq_true rfl) dX7_runCommand_57 (fun r u H locs hp Y => ?_)
      subst hp
      refine lv_if_eq (tgt := 69) E.1.1 E.1.2.1 dX7_runCommand_60 (by decide) (fun c_60 => ?_) (fun c_60 => ?_)
      · skip
        refine lv_aload_n E.1.1 E.1.2.1 dX7_runCommand_69 rfl (lv_at hl 0 rfl) ?_
        refine gf_X7_73 E Y 0 rfl rfl dX7_runCommand_70 ?_
        refine lv_iconst (v := 5) E.1.1 E.1.2.1 dX7_runCommand_73 (by decide) ?_
        refine lv_icmp_ne (tgt := 95) E.1.1 E.1.2.1 dX7_runCommand_74 (by decide) (fun c_74 => ?_) (fun c_74 => ?_)
        · skip
          refine lv_aload_n E.1.1 E.1.2.1 dX7_runCommand_95 rfl (lv_at hl 0 rfl) ?_
          refine gf_X7_73 E Y 0 rfl rfl dX7_runCommand_96 ?_
          refine lv_iconst (v := 4) E.1.1 E.1.2.1 dX7_runCommand_99 (by decide) ?_
          refine lv_icmp_ne (tgt := 123) E.1.1 E.1.2.1 dX7_runCommand_100 (by decide) (fun c_100 => ?_) (fun c_100 => ?_)
          · skip
            refine lv_bipush (v := (-5)) E.1.1 E.1.2.1 dX7_runCommand_123 (by decide) ?_
            have e9 : (f_X7_runCommand k v y) = ((-5 : Int32), k, v, (upd (upd (y.1) 1 (y.1 0)) 0 (0 : Int32), y.2)) := (if_pos c_23).trans ((if_pos c_42).trans ((if_pos c_60).trans ((if_neg c_74).trans ((if_neg c_100).trans (rfl)))))
            exact r_iret E Y hr hk (-5 : Int32) (k, v, (upd (upd (y.1) 1 (y.1 0)) 0 (0 : Int32), y.2)) (pr_of e9) rfl ⟨Nat.le_of_ble_eq_true rfl, Nat.le_of_ble_eq_true rfl⟩ dX7_runCommand_125
          · skip
            refine lv_aload_n E.1.1 E.1.2.1 dX7_runCommand_103 rfl (lv_at hl 0 rfl) ?_
            refine lv_iconst (v := 0) E.1.1 E.1.2.1 dX7_runCommand_104 (by decide) ?_
            refine lv_ldc2 (v := 16120125) E.1.1 E.1.2.1 E.1.2.2.2.1 (E.1.2.2.2.2 _ mj_X7_124) dX7_runCommand_105 ?_
            refine lv_iconst (v := 4) E.1.1 E.1.2.1 dX7_runCommand_108 (by decide) ?_
            refine r_Vi (wr := []) (w2 := fun _ => [(qm, .inr (9, [.int (k.1 0), .int (k.1 1), .ref ma, .int (k.1 2), .ref mb, .int (k.1 3), .ref me, .ref mr, .int (k.1 4), .int (k.1 5), .int (k.1 6), .int (k.1 7), .int (k.1 8), .int (k.1 9), .int (k.1 10), .ref mn, .ref ms, .int (0 : Int32), .ref mk, .int (y.1 0)])), (mb, .inl (cI, 5, .inl k.2.1)), (ma, .inl (cI, 30, .inl k.2.2.1)), (me, .inl (cI, 12, .inl k.2.2.2.1)), (mr, .inl (cI, 12, .inl k.2.2.2.2)), (mn, .inl (cI, 52, .inl v)), (ms, .inl (cI, 52, .inl a)), (mk, .inl (cI, 16, .inl y.2))]) E Y hA hl.1 (c_X7_has_play qm mb ma me mr mn ms mk k v a (upd (upd (y.1) 1 (y.1 0)) 0 (0 : Int32), y.2)) lk_X7_87 X0b (fun _ _ _ => trivial) [0, 1, 2, 3, 4, 5, 6, 7] [] [0, 1, 2, 3, 4, 5, 6, 7] rfl rfl (by decide) (fun _ => rfl) 0 rfl rfl ⟨Nat.le_of_ble_eq_true rfl, Nat.le_of_ble_eq_true rfl⟩ ⟨Nat.le_of_ble_eq_true rfl, Nat.le_of_ble_eq_true rfl⟩ rfl rfl (Nat.le_of_ble_eq_true rfl) dX7_runCommand_109 (fun r u H locs hp Y => ?_)
            subst hp
            refine lv_if_eq (tgt := 123) E.1.1 E.1.2.1 dX7_runCommand_112 (by decide) (fun c_112 => ?_) (fun c_112 => ?_)
            · skip
              refine lv_bipush (v := (-5)) E.1.1 E.1.2.1 dX7_runCommand_123 (by decide) ?_
              have e9 : (f_X7_runCommand k v y) = ((-5 : Int32), k, v, (upd (upd (y.1) 1 (y.1 0)) 0 (0 : Int32), y.2)) := (if_pos c_23).trans ((if_pos c_42).trans ((if_pos c_60).trans ((if_neg c_74).trans ((if_pos c_100).trans ((if_pos c_112).trans (rfl))))))
              exact r_iret E Y hr hk (-5 : Int32) (k, v, (upd (upd (y.1) 1 (y.1 0)) 0 (0 : Int32), y.2)) (pr_of e9) rfl ⟨Nat.le_of_ble_eq_true rfl, Nat.le_of_ble_eq_true rfl⟩ dX7_runCommand_125
            · skip
              refine lv_aload_n E.1.1 E.1.2.1 dX7_runCommand_115 rfl (lv_at hl 0 rfl) ?_
              refine lv_iconst (v := 0) E.1.1 E.1.2.1 dX7_runCommand_116 (by decide) ?_
              refine r_Vi (wr := []) (w2 := fun u => [(qm, .inr (9, [.int (k.1 0), .int (k.1 1), .ref ma, .int (k.1 2), .ref mb, .int (k.1 3), .ref me, .ref mr, .int (k.1 4), .int (k.1 5), .int (k.1 6), .int (k.1 7), .int (k.1 8), .int (k.1 9), .int (k.1 10), .ref mn, .ref ms, .int (0 : Int32), .ref mk, .int (y.1 0)])), (mb, .inl (cI, 5, .inl k.2.1)), (ma, .inl (cI, 30, .inl k.2.2.1)), (me, .inl (cI, 12, .inl k.2.2.2.1)), (mr, .inl (cI, 12, .inl k.2.2.2.2)), (mn, .inl (cI, 52, .inl u)), (ms, .inl (cI, 52, .inl a)), (mk, .inl (cI, 16, .inl y.2))]) E Y hA hl.1 (c_X7_pauses qm mb ma me mr mn ms mk k v a (upd (upd (y.1) 1 (y.1 0)) 0 (0 : Int32), y.2) (0 : Int32)) lk_X7_121 X0b (fun _ _ _ => trivial) [0, 1, 2, 3, 4, 5, 6, 7] [] [0, 1, 2, 3, 4, 5, 6, 7] rfl rfl (by decide) (fun _ => rfl) 0 rfl rfl ⟨Nat.le_of_ble_eq_true rfl, Nat.le_of_ble_eq_true rfl⟩ ⟨Nat.le_of_ble_eq_true rfl, Nat.le_of_ble_eq_true rfl⟩ rfl rfl (Nat.le_of_ble_eq_true rfl) dX7_runCommand_117 (fun r u H locs hp Y => ?_)
              obtain ⟨rfl, rfl⟩ := hp
              refine lv_goto (tgt := 125) E.1.1 E.1.2.1 dX7_runCommand_120 (by decide) ?_
              have e9 : (f_X7_runCommand k v y) = (((f_X7_pauses v (0 : Int32)).1), k, (f_X7_pauses v (0 : Int32)).2, (upd (upd (y.1) 1 (y.1 0)) 0 (0 : Int32), y.2)) := (if_pos c_23).trans ((if_pos c_42).trans ((if_pos c_60).trans ((if_neg c_74).trans ((if_pos c_100).trans ((if_neg c_112).trans (rfl))))))
              exact r_iret E Y hr hk ((f_X7_pauses v (0 : Int32)).1) (k, (f_X7_pauses v (0 : Int32)).2, (upd (upd (y.1) 1 (y.1 0)) 0 (0 : Int32), y.2)) (pr_of e9) rfl ⟨Nat.le_of_ble_eq_true rfl, Nat.le_of_ble_eq_true rfl⟩ dX7_runCommand_125
        · skip
          refine lv_aload_n E.1.1 E.1.2.1 dX7_runCommand_77 rfl (lv_at hl 0 rfl) ?_
          refine lv_iconst (v := 0) E.1.1 E.1.2.1 dX7_runCommand_78 (by decide) ?_
          refine lv_ldc2 (v := 1601211905) E.1.1 E.1.2.1 E.1.2.2.2.1 (E.1.2.2.2.2 _ mj_X7_119) dX7_runCommand_79 ?_
          refine lv_iconst (v := 5) E.1.1 E.1.2.1 dX7_runCommand_82 (by decide) ?_
          refine r_Vi (wr := []) (w2 := fun _ => [(qm, .inr (9, [.int (k.1 0), .int (k.1 1), .ref ma, .int (k.1 2), .ref mb, .int (k.1 3), .ref me, .ref mr, .int (k.1 4), .int (k.1 5), .int (k.1 6), .int (k.1 7), .int (k.1 8), .int (k.1 9), .int (k.1 10), .ref mn, .ref ms, .int (0 : Int32), .ref mk, .int (y.1 0)])), (mb, .inl (cI, 5, .inl k.2.1)), (ma, .inl (cI, 30, .inl k.2.2.1)), (me, .inl (cI, 12, .inl k.2.2.2.1)), (mr, .inl (cI, 12, .inl k.2.2.2.2)), (mn, .inl (cI, 52, .inl v)), (ms, .inl (cI, 52, .inl a)), (mk, .inl (cI, 16, .inl y.2))]) E Y hA hl.1 (c_X7_has_pause qm mb ma me mr mn ms mk k v a (upd (upd (y.1) 1 (y.1 0)) 0 (0 : Int32), y.2)) lk_X7_87 X0b (fun _ _ _ => trivial) [0, 1, 2, 3, 4, 5, 6, 7] [] [0, 1, 2, 3, 4, 5, 6, 7] rfl rfl (by decide) (fun _ => rfl) 0 rfl rfl ⟨Nat.le_of_ble_eq_true rfl, Nat.le_of_ble_eq_true rfl⟩ ⟨Nat.le_of_ble_eq_true rfl, Nat.le_of_ble_eq_true rfl⟩ rfl rfl (Nat.le_of_ble_eq_true rfl) dX7_runCommand_83 (fun r u H locs hp Y => ?_)
          subst hp
          refine lv_if_eq (tgt := 95) E.1.1 E.1.2.1 dX7_runCommand_86 (by decide) (fun c_86 => ?_) (fun c_86 => ?_)
          · skip
            refine lv_aload_n E.1.1 E.1.2.1 dX7_runCommand_95 rfl (lv_at hl 0 rfl) ?_
            refine gf_X7_73 E Y 0 rfl rfl dX7_runCommand_96 ?_
            refine lv_iconst (v := 4) E.1.1 E.1.2.1 dX7_runCommand_99 (by decide) ?_
            refine lv_icmp_ne (tgt := 123) E.1.1 E.1.2.1 dX7_runCommand_100 (by decide) (fun c_100 => ?_) (fun c_100 => ?_)
            · skip
              refine lv_bipush (v := (-5)) E.1.1 E.1.2.1 dX7_runCommand_123 (by decide) ?_
              have e9 : (f_X7_runCommand k v y) = ((-5 : Int32), k, v, (upd (upd (y.1) 1 (y.1 0)) 0 (0 : Int32), y.2)) := (if_pos c_23).trans ((if_pos c_42).trans ((if_pos c_60).trans ((if_pos c_74).trans ((if_pos c_86).trans ((if_neg c_100).trans (rfl))))))
              exact r_iret E Y hr hk (-5 : Int32) (k, v, (upd (upd (y.1) 1 (y.1 0)) 0 (0 : Int32), y.2)) (pr_of e9) rfl ⟨Nat.le_of_ble_eq_true rfl, Nat.le_of_ble_eq_true rfl⟩ dX7_runCommand_125
            · skip
              refine lv_aload_n E.1.1 E.1.2.1 dX7_runCommand_103 rfl (lv_at hl 0 rfl) ?_
              refine lv_iconst (v := 0) E.1.1 E.1.2.1 dX7_runCommand_104 (by decide) ?_
              refine lv_ldc2 (v := 16120125) E.1.1 E.1.2.1 E.1.2.2.2.1 (E.1.2.2.2.2 _ mj_X7_124) dX7_runCommand_105 ?_
              refine lv_iconst (v := 4) E.1.1 E.1.2.1 dX7_runCommand_108 (by decide) ?_
              refine r_Vi (wr := []) (w2 := fun _ => [(qm, .inr (9, [.int (k.1 0), .int (k.1 1), .ref ma, .int (k.1 2), .ref mb, .int (k.1 3), .ref me, .ref mr, .int (k.1 4), .int (k.1 5), .int (k.1 6), .int (k.1 7), .int (k.1 8), .int (k.1 9), .int (k.1 10), .ref mn, .ref ms, .int (0 : Int32), .ref mk, .int (y.1 0)])), (mb, .inl (cI, 5, .inl k.2.1)), (ma, .inl (cI, 30, .inl k.2.2.1)), (me, .inl (cI, 12, .inl k.2.2.2.1)), (mr, .inl (cI, 12, .inl k.2.2.2.2)), (mn, .inl (cI, 52, .inl v)), (ms, .inl (cI, 52, .inl a)), (mk, .inl (cI, 16, .inl y.2))]) E Y hA hl.1 (c_X7_has_play qm mb ma me mr mn ms mk k v a (upd (upd (y.1) 1 (y.1 0)) 0 (0 : Int32), y.2)) lk_X7_87 X0b (fun _ _ _ => trivial) [0, 1, 2, 3, 4, 5, 6, 7] [] [0, 1, 2, 3, 4, 5, 6, 7] rfl rfl (by decide) (fun _ => rfl) 0 rfl rfl ⟨Nat.le_of_ble_eq_true rfl, Nat.le_of_ble_eq_true rfl⟩ ⟨Nat.le_of_ble_eq_true rfl, Nat.le_of_ble_eq_true rfl⟩ rfl rfl (Nat.le_of_ble_eq_true rfl) dX7_runCommand_109 (fun r u H locs hp Y => ?_)
              subst hp
              refine lv_if_eq (tgt := 123) E.1.1 E.1.2.1 dX7_runCommand_112 (by decide) (fun c_112 => ?_) (fun c_112 => ?_)
              · skip
                refine lv_bipush (v := (-5)) E.1.1 E.1.2.1 dX7_runCommand_123 (by decide) ?_
                have e9 : (f_X7_runCommand k v y) = ((-5 : Int32), k, v, (upd (upd (y.1) 1 (y.1 0)) 0 (0 : Int32), y.2)) := (if_pos c_23).trans ((if_pos c_42).trans ((if_pos c_60).trans ((if_pos c_74).trans ((if_pos c_86).trans ((if_pos c_100).trans ((if_pos c_112).trans (rfl)))))))
                exact r_iret E Y hr hk (-5 : Int32) (k, v, (upd (upd (y.1) 1 (y.1 0)) 0 (0 : Int32), y.2)) (pr_of e9) rfl ⟨Nat.le_of_ble_eq_true rfl, Nat.le_of_ble_eq_true rfl⟩ dX7_runCommand_125
              · skip
                refine lv_aload_n E.1.1 E.1.2.1 dX7_runCommand_115 rfl (lv_at hl 0 rfl) ?_
                refine lv_iconst (v := 0) E.1.1 E.1.2.1 dX7_runCommand_116 (by decide) ?_
                refine r_Vi (wr := []) (w2 := fun u => [(qm, .inr (9, [.int (k.1 0), .int (k.1 1), .ref ma, .int (k.1 2), .ref mb, .int (k.1 3), .ref me, .ref mr, .int (k.1 4), .int (k.1 5), .int (k.1 6), .int (k.1 7), .int (k.1 8), .int (k.1 9), .int (k.1 10), .ref mn, .ref ms, .int (0 : Int32), .ref mk, .int (y.1 0)])), (mb, .inl (cI, 5, .inl k.2.1)), (ma, .inl (cI, 30, .inl k.2.2.1)), (me, .inl (cI, 12, .inl k.2.2.2.1)), (mr, .inl (cI, 12, .inl k.2.2.2.2)), (mn, .inl (cI, 52, .inl u)), (ms, .inl (cI, 52, .inl a)), (mk, .inl (cI, 16, .inl y.2))]) E Y hA hl.1 (c_X7_pauses qm mb ma me mr mn ms mk k v a (upd (upd (y.1) 1 (y.1 0)) 0 (0 : Int32), y.2) (0 : Int32)) lk_X7_121 X0b (fun _ _ _ => trivial) [0, 1, 2, 3, 4, 5, 6, 7] [] [0, 1, 2, 3, 4, 5, 6, 7] rfl rfl (by decide) (fun _ => rfl) 0 rfl rfl ⟨Nat.le_of_ble_eq_true rfl, Nat.le_of_ble_eq_true rfl⟩ ⟨Nat.le_of_ble_eq_true rfl, Nat.le_of_ble_eq_true rfl⟩ rfl rfl (Nat.le_of_ble_eq_true rfl) dX7_runCommand_117 (fun r u H locs hp Y => ?_)
                obtain ⟨rfl, rfl⟩ := hp
                refine lv_goto (tgt := 125) E.1.1 E.1.2.1 dX7_runCommand_120 (by decide) ?_
                have e9 : (f_X7_runCommand k v y) = (((f_X7_pauses v (0 : Int32)).1), k, (f_X7_pauses v (0 : Int32)).2, (upd (upd (y.1) 1 (y.1 0)) 0 (0 : Int32), y.2)) := (if_pos c_23).trans ((if_pos c_42).trans ((if_pos c_60).trans ((if_pos c_74).trans ((if_pos c_86).trans ((if_pos c_100).trans ((if_neg c_112).trans (rfl)))))))
                exact r_iret E Y hr hk ((f_X7_pauses v (0 : Int32)).1) (k, (f_X7_pauses v (0 : Int32)).2, (upd (upd (y.1) 1 (y.1 0)) 0 (0 : Int32), y.2)) (pr_of e9) rfl ⟨Nat.le_of_ble_eq_true rfl, Nat.le_of_ble_eq_true rfl⟩ dX7_runCommand_125
          · skip
            refine lv_aload_n E.1.1 E.1.2.1 dX7_runCommand_89 rfl (lv_at hl 0 rfl) ?_
            refine lv_iconst (v := 1) E.1.1 E.1.2.1 dX7_runCommand_90 (by decide) ?_
            refine r_Vi (wr := []) (w2 := fun u => [(qm, .inr (9, [.int (k.1 0), .int (k.1 1), .ref ma, .int (k.1 2), .ref mb, .int (k.1 3), .ref me, .ref mr, .int (k.1 4), .int (k.1 5), .int (k.1 6), .int (k.1 7), .int (k.1 8), .int (k.1 9), .int (k.1 10), .ref mn, .ref ms, .int (0 : Int32), .ref mk, .int (y.1 0)])), (mb, .inl (cI, 5, .inl k.2.1)), (ma, .inl (cI, 30, .inl k.2.2.1)), (me, .inl (cI, 12, .inl k.2.2.2.1)), (mr, .inl (cI, 12, .inl k.2.2.2.2)), (mn, .inl (cI, 52, .inl u)), (ms, .inl (cI, 52, .inl a)), (mk, .inl (cI, 16, .inl y.2))]) E Y hA hl.1 (c_X7_pauses qm mb ma me mr mn ms mk k v a (upd (upd (y.1) 1 (y.1 0)) 0 (0 : Int32), y.2) (1 : Int32)) lk_X7_121 X0b (fun _ _ _ => trivial) [0, 1, 2, 3, 4, 5, 6, 7] [] [0, 1, 2, 3, 4, 5, 6, 7] rfl rfl (by decide) (fun _ => rfl) 0 rfl rfl ⟨Nat.le_of_ble_eq_true rfl, Nat.le_of_ble_eq_true rfl⟩ ⟨Nat.le_of_ble_eq_true rfl, Nat.le_of_ble_eq_true rfl⟩ rfl rfl (Nat.le_of_ble_eq_true rfl) dX7_runCommand_91 (fun r u H locs hp Y => ?_)
            obtain ⟨rfl, rfl⟩ := hp
            have e9 : (f_X7_runCommand k v y) = (((f_X7_pauses v (1 : Int32)).1), k, (f_X7_pauses v (1 : Int32)).2, (upd (upd (y.1) 1 (y.1 0)) 0 (0 : Int32), y.2)) := (if_pos c_23).trans ((if_pos c_42).trans ((if_pos c_60).trans ((if_pos c_74).trans ((if_neg c_86).trans (rfl)))))
            exact r_iret E Y hr hk ((f_X7_pauses v (1 : Int32)).1) (k, (f_X7_pauses v (1 : Int32)).2, (upd (upd (y.1) 1 (y.1 0)) 0 (0 : Int32), y.2)) (pr_of e9) rfl ⟨Nat.le_of_ble_eq_true rfl, Nat.le_of_ble_eq_true rfl⟩ dX7_runCommand_94
      · skip
        refine lv_aload_n E.1.1 E.1.2.1 dX7_runCommand_63 rfl (lv_at hl 0 rfl) ?_
        refine lv_iconst (v := 5) E.1.1 E.1.2.1 dX7_runCommand_64 (by decide) ?_
        refine r_Vi (wr := []) (w2 := fun u => [(qm, .inr (9, [.int (k.1 0), .int (k.1 1), .ref ma, .int (k.1 2), .ref mb, .int (k.1 3), .ref me, .ref mr, .int (k.1 4), .int (k.1 5), .int (k.1 6), .int (k.1 7), .int (k.1 8), .int (k.1 9), .int (k.1 10), .ref mn, .ref ms, .int (0 : Int32), .ref mk, .int (y.1 0)])), (mb, .inl (cI, 5, .inl k.2.1)), (ma, .inl (cI, 30, .inl k.2.2.1)), (me, .inl (cI, 12, .inl k.2.2.2.1)), (mr, .inl (cI, 12, .inl k.2.2.2.2)), (mn, .inl (cI, 52, .inl u)), (ms, .inl (cI, 52, .inl a)), (mk, .inl (cI, 16, .inl y.2))]) E Y hA hl.1 (c_X7_seekFrom5 qm mb ma me mr mn ms mk k v a (upd (upd (y.1) 1 (y.1 0)) 0 (0 : Int32), y.2) yO) lk_X7_116 X0b (fun _ _ _ => trivial) [0, 1, 2, 3, 4, 5, 6, 7] [] [0, 1, 2, 3, 4, 5, 6, 7] rfl rfl (by decide) (fun _ => rfl) 0 rfl rfl ⟨Nat.le_of_ble_eq_true rfl, Nat.le_of_ble_eq_true rfl⟩ ⟨Nat.le_of_ble_eq_true rfl, Nat.le_of_ble_eq_true rfl⟩ rfl rfl (Nat.le_of_ble_eq_true rfl) dX7_runCommand_65 (fun r u H locs hp Y => ?_)
        obtain ⟨rfl, rfl⟩ := hp
        have e9 : (f_X7_runCommand k v y) = (((f_X7_seekFrom5 k v (upd (upd (y.1) 1 (y.1 0)) 0 (0 : Int32), y.2)).1), k, (f_X7_seekFrom5 k v (upd (upd (y.1) 1 (y.1 0)) 0 (0 : Int32), y.2)).2, (upd (upd (y.1) 1 (y.1 0)) 0 (0 : Int32), y.2)) := (if_pos c_23).trans ((if_pos c_42).trans ((if_neg c_60).trans (rfl)))
        exact r_iret E Y hr hk ((f_X7_seekFrom5 k v (upd (upd (y.1) 1 (y.1 0)) 0 (0 : Int32), y.2)).1) (k, (f_X7_seekFrom5 k v (upd (upd (y.1) 1 (y.1 0)) 0 (0 : Int32), y.2)).2, (upd (upd (y.1) 1 (y.1 0)) 0 (0 : Int32), y.2)) (pr_of e9) rfl ⟨Nat.le_of_ble_eq_true rfl, Nat.le_of_ble_eq_true rfl⟩ dX7_runCommand_68
    · skip
      refine lv_aload_n E.1.1 E.1.2.1 dX7_runCommand_45 rfl (lv_at hl 0 rfl) ?_
      refine lv_iconst (v := 4) E.1.1 E.1.2.1 dX7_runCommand_46 (by decide) ?_
      refine r_Vi (wr := []) (w2 := fun u => [(qm, .inr (9, [.int (u.1 0), .int (u.1 1), .ref ma, .int (u.1 2), .ref mb, .int (u.1 3), .ref me, .ref mr, .int (u.1 4), .int (u.1 5), .int (u.1 6), .int (u.1 7), .int (u.1 8), .int (u.1 9), .int (u.1 10), .ref mn, .ref ms, .int (0 : Int32), .ref mk, .int (y.1 0)])), (mb, .inl (cI, 5, .inl u.2.1)), (ma, .inl (cI, 30, .inl u.2.2.1)), (me, .inl (cI, 12, .inl u.2.2.2.1)), (mr, .inl (cI, 12, .inl u.2.2.2.2)), (mn, .inl (cI, 52, .inl v)), (ms, .inl (cI, 52, .inl a)), (mk, .inl (cI, 16, .inl y.2))]) E Y hA hl.1 (c_X7_capFrom4 qm mb ma me mr mn ms mk k v a (upd (upd (y.1) 1 (y.1 0)) 0 (0 : Int32), y.2) yO) lk_X7_111 X0b (fun _ _ _ => trivial) [0, 1, 2, 3, 4, 5, 6, 7] [] [0, 1, 2, 3, 4, 5, 6, 7] rfl rfl (by decide) (fun _ => rfl) 0 rfl rfl ⟨Nat.le_of_ble_eq_true rfl, Nat.le_of_ble_eq_true rfl⟩ ⟨Nat.le_of_ble_eq_true rfl, Nat.le_of_ble_eq_true rfl⟩ rfl rfl (Nat.le_of_ble_eq_true rfl) dX7_runCommand_47 (fun r u H locs hp Y => ?_)
      obtain ⟨rfl, rfl⟩ := hp
      have e9 : (f_X7_runCommand k v y) = (((f_X7_capFrom4 k (upd (upd (y.1) 1 (y.1 0)) 0 (0 : Int32), y.2)).1), (f_X7_capFrom4 k (upd (upd (y.1) 1 (y.1 0)) 0 (0 : Int32), y.2)).2, v, (upd (upd (y.1) 1 (y.1 0)) 0 (0 : Int32), y.2)) := (if_pos c_23).trans ((if_neg c_42).trans (rfl))
      exact r_iret E Y hr hk ((f_X7_capFrom4 k (upd (upd (y.1) 1 (y.1 0)) 0 (0 : Int32), y.2)).1) ((f_X7_capFrom4 k (upd (upd (y.1) 1 (y.1 0)) 0 (0 : Int32), y.2)).2, v, (upd (upd (y.1) 1 (y.1 0)) 0 (0 : Int32), y.2)) (pr_of e9) rfl ⟨Nat.le_of_ble_eq_true rfl, Nat.le_of_ble_eq_true rfl⟩ dX7_runCommand_50
  · skip
    refine lv_aload_n E.1.1 E.1.2.1 dX7_runCommand_26 rfl (lv_at hl 0 rfl) ?_
    refine lv_bipush (v := 7) E.1.1 E.1.2.1 dX7_runCommand_27 (by decide) ?_
    refine r_Vi (wr := []) (w2 := fun u => [(qm, .inr (9, [.int (u.1 0), .int (u.1 1), .ref ma, .int (u.1 2), .ref mb, .int (u.1 3), .ref me, .ref mr, .int (u.1 4), .int (u.1 5), .int (u.1 6), .int (u.1 7), .int (u.1 8), .int (u.1 9), .int (u.1 10), .ref mn, .ref ms, .int (0 : Int32), .ref mk, .int (y.1 0)])), (mb, .inl (cI, 5, .inl u.2.1)), (ma, .inl (cI, 30, .inl u.2.2.1)), (me, .inl (cI, 12, .inl u.2.2.2.1)), (mr, .inl (cI, 12, .inl u.2.2.2.2)), (mn, .inl (cI, 52, .inl v)), (ms, .inl (cI, 52, .inl a)), (mk, .inl (cI, 16, .inl y.2))]) E Y hA hl.1 (c_X7_policyFrom7 qm mb ma me mr mn ms mk k v a (upd (upd (y.1) 1 (y.1 0)) 0 (0 : Int32), y.2)) lk_X7_106 X0b (fun _ _ _ => trivial) [0, 1, 2, 3, 4, 5, 6, 7] [] [0, 1, 2, 3, 4, 5, 6, 7] rfl rfl (by decide) (fun _ => rfl) 0 rfl rfl ⟨Nat.le_of_ble_eq_true rfl, Nat.le_of_ble_eq_true rfl⟩ ⟨Nat.le_of_ble_eq_true rfl, Nat.le_of_ble_eq_true rfl⟩ rfl rfl (Nat.le_of_ble_eq_true rfl) dX7_runCommand_29 (fun r u H locs hp Y => ?_)
    obtain ⟨rfl, rfl⟩ := hp
    have e9 : (f_X7_runCommand k v y) = (((f_X7_policyFrom7 k (upd (upd (y.1) 1 (y.1 0)) 0 (0 : Int32), y.2)).1), (f_X7_policyFrom7 k (upd (upd (y.1) 1 (y.1 0)) 0 (0 : Int32), y.2)).2, v, (upd (upd (y.1) 1 (y.1 0)) 0 (0 : Int32), y.2)) := (if_neg c_23).trans (rfl)
    exact r_iret E Y hr hk ((f_X7_policyFrom7 k (upd (upd (y.1) 1 (y.1 0)) 0 (0 : Int32), y.2)).1) ((f_X7_policyFrom7 k (upd (upd (y.1) 1 (y.1 0)) 0 (0 : Int32), y.2)).2, v, (upd (upd (y.1) 1 (y.1 0)) 0 (0 : Int32), y.2)) (pr_of e9) rfl ⟨Nat.le_of_ble_eq_true rfl, Nat.le_of_ble_eq_true rfl⟩ dX7_runCommand_32
