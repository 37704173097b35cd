theorem xw_str {D : mp_G} {cl : List vw_C} {tys : List (ClassId × FieldType)} {s : State} {own tx : String} {k : Nat} (hK : mp_K D cl tys s) (hw : Cond.stringRef own k tx ∈ lw_tbl) (hex : (Cond.exactly (.string own k) "java/lang/String").before D.2.2 D.2.1 = true) : ∃ sa, vk_R own k tx sa s := by
  obtain ⟨a, c9, cell9, k9, g1, -⟩ := Cond.exactly_spec hex
  exact ⟨a, vk_R.warm hK.2 (vk_R.of (A := D.2.2) (hK.1.2.1 _ hw) g1)⟩
def xw_r1 : Cond := Cond.isRef (.static "java/lang/Throwable" "UNASSIGNED_STACK" "[Ljava/lang/StackTraceElement;")
def xw_r2 : Cond := Cond.isRef (.static "java/lang/Throwable" "SUPPRESSED_SENTINEL" "Ljava/util/List;")
theorem xw_own {D : mp_G} {cl : List vw_C} {tys : List (ClassId × FieldType)} {s : State} {args : Array Value} {S : mp_M} {as : List Cond} (hK : mp_K D cl tys s) (hH : mp_H D cl S s.heap) (h : as.all (fun w => (decide (w ∈ lw_tbl) && xw_ok w) || decide (w = xw_r1) || decide (w = xw_r2)) = true) : ∀ w ∈ as, w.before args s = true := by
  intro w hw
  have h1 := List.all_eq_true.mp h w hw
  have hs := flat_of_before _ hK.1.2.2
  simp only [Bool.or_eq_true, Bool.and_eq_true, decide_eq_true_eq] at h1
  rcases h1 with (⟨h2, h3⟩ | rfl) | rfl
  · exact xw_at hK hH h2 h3
  · exact xw_ref hK hH q_577 (gw_in q_6) (hs _ (by decide +kernel))
  · exact xw_ref hK hH q_579 (gw_in q_6) (hs _ (by decide +kernel))
theorem xa_Es : (Bundle.ownAtoms "SolutionBoxes" 47 "java/lang/IllegalStateException" ["java/lang/RuntimeException", "java/lang/Exception"]).all (fun w => (decide (w ∈ lw_tbl) && xw_ok w) || decide (w = xw_r1) || decide (w = xw_r2)) = true := by decide +kernel
theorem xa_Ea : (Bundle.ownAtoms "SolutionBoxes" 66 "java/lang/IllegalArgumentException" ["java/lang/RuntimeException", "java/lang/Exception"]).all (fun w => (decide (w ∈ lw_tbl) && xw_ok w) || decide (w = xw_r1) || decide (w = xw_r2)) = true := by decide +kernel
theorem xa_Em : (Bundle.ownAtoms "SolutionBoxes" 75 "java/lang/ArithmeticException" ["java/lang/RuntimeException", "java/lang/Exception"]).all (fun w => (decide (w ∈ lw_tbl) && xw_ok w) || decide (w = xw_r1) || decide (w = xw_r2)) = true := by decide +kernel
theorem xa_Ei : (Bundle.ownAtoms "SolutionBoxes" 174 "java/lang/IndexOutOfBoundsException" ["java/lang/RuntimeException", "java/lang/Exception"]).all (fun w => (decide (w ∈ lw_tbl) && xw_ok w) || decide (w = xw_r1) || decide (w = xw_r2)) = true := by decide +kernel
theorem xs_45 {D : mp_G} {cl : List vw_C} {tys : List (ClassId × FieldType)} {s : State} (hK : mp_K D cl tys s) : ∃ sa, vk_R "SolutionBoxes" 45 "40 polynomials were given" sa s := xw_str hK q_592 (flat_of_before _ hK.1.2.2 _ (by decide +kernel))
theorem xs_172 {D : mp_G} {cl : List vw_C} {tys : List (ClassId × FieldType)} {s : State} (hK : mp_K D cl tys s) : ∃ sa, vk_R "SolutionBoxes" 172 "no such polynomial" sa s := xw_str hK q_642 (flat_of_before _ hK.1.2.2 _ (by decide +kernel))
theorem xs_64 {D : mp_G} {cl : List vw_C} {tys : List (ClassId × FieldType)} {s : State} (hK : mp_K D cl tys s) : ∃ sa, vk_R "SolutionBoxes" 64 "no such power" sa s := xw_str hK q_661 (flat_of_before _ hK.1.2.2 _ (by decide +kernel))
theorem xs_73 {D : mp_G} {cl : List vw_C} {tys : List (ClassId × FieldType)} {s : State} (hK : mp_K D cl tys s) : ∃ sa, vk_R "SolutionBoxes" 73 "below is 0 modulo 32003" sa s := xw_str hK q_684 (flat_of_before _ hK.1.2.2 _ (by decide +kernel))
theorem xs_177 {D : mp_G} {cl : List vw_C} {tys : List (ClassId × FieldType)} {s : State} (hK : mp_K D cl tys s) : ∃ sa, vk_R "SolutionBoxes" 177 "zeros aren't known" sa s := xw_str hK q_743 (flat_of_before _ hK.1.2.2 _ (by decide +kernel))
theorem xs_182 {D : mp_G} {cl : List vw_C} {tys : List (ClassId × FieldType)} {s : State} (hK : mp_K D cl tys s) : ∃ sa, vk_R "SolutionBoxes" 182 "no such zero" sa s := xw_str hK q_764 (flat_of_before _ hK.1.2.2 _ (by decide +kernel))
theorem xs_175 {D : mp_G} {cl : List vw_C} {tys : List (ClassId × FieldType)} {s : State} (hK : mp_K D cl tys s) : ∃ sa, vk_R "SolutionBoxes" 175 "no such letter" sa s := xw_str hK q_769 (flat_of_before _ hK.1.2.2 _ (by decide +kernel))
