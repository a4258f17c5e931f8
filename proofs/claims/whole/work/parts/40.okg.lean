/-! what stays well -/
theorem OKG.abb {G : GS} {B : AB} (h : OKG G) (hB : WA B) : OKG (setA G B) := ⟨⟨⟨hB, h.1.1.2⟩, h.1.2⟩, h.2⟩
theorem OKG_monk {G : GS} {m w v : Int} (h : OKG G) : OKG (monkF G m w v).2 := by
  unfold monkF
  split
  · exact h
  · split
    · exact h
    · split
      · split
        · exact h
        · exact h.abb (WA_setH h.1.1.1 (by omega) (by omega))
      · split
        · exact h
        · exact h.abb (WA_setS h.1.1.1 (by omega) (by omega))
theorem OKG_wear {G : GS} {v : Int} (h : OKG G) : OKG (wearF G v).2 := by
  unfold wearF
  split
  · exact h
  · exact h.abb (WA_setWr h.1.1.1 (by omega) (by omega))
theorem OKG.padd {G : GS} {pd : List Int} (h : OKG G) (hp : WD pd) : OKG (G.1, pd, G.2.2) := ⟨h.1, hp, h.2.2⟩
theorem WD_nil : WD [] := ⟨by show 0 ≤ 60; omega, fun v hv => by cases hv⟩
theorem OKG_say {G : GS} {s : Int} (h : OKG G) : OKG (sayF G s).2 := by
  unfold sayF
  split
  · exact h
  · split
    · exact h
    · refine h.padd ⟨?_, fun v hv => ?_⟩
      · have := h.2.1.1
        rw [List.length_append, List.length_singleton]
        omega
      · rcases List.mem_append.mp hv with hv | hv
        · exact h.2.1.2 v hv
        · rw [List.mem_singleton.mp hv]; omega
theorem OKG_wipe {G : GS} (h : OKG G) : OKG (wipeF G).2 := h.padd WD_nil
theorem OKG_judge {G : GS} {w : Int} (h : OKG G) : OKG (judgeF G w).2 := by
  unfold judgeF
  repeat' split
  all_goals exact h
theorem OKG_done {G : GS} (h : OKG G) : OKG (doneF G).2 := by
  unfold doneF
  by_cases e1 : fault G.2.1 = -6
  · rw [if_neg (not_not_intro e1)]
    split
    · exact h
    · exact (h.abb (follow_bd e1 h.2.1.1 h.1.1.1).2.2).padd WD_nil
  · rw [if_pos e1]
    exact h
theorem OKG_load {G : GS} {u v : Int} (h : OKG G) : OKG (loadF G u v).2 := by
  unfold loadF
  split
  · exact h
  · split
    · exact h
    · split
      · exact h
      · refine ⟨⟨⟨h.1.1.1, ?_, h.1.1.2.2⟩, fun q hq => ?_, h.1.2.2⟩, h.2⟩
        · have := h.1.1.2.1
          show (G.1.2.1 ++ [(u, v)]).length ≤ 6
          rw [List.length_append, List.length_singleton]
          omega
        · rcases List.mem_append.mp hq with hq | hq
          · exact h.1.2.1 q hq
          · rw [List.mem_singleton.mp hq]
            show 0 ≤ u ∧ u ≤ 9999 ∧ 0 ≤ v ∧ v ≤ 99
            omega
theorem OKG_drop {G : GS} (h : OKG G) : OKG (dropF G).2 := ⟨⟨⟨h.1.1.1, by show 0 ≤ 6; omega, h.1.1.2.2⟩, (fun q hq => by cases hq), h.1.2.2⟩, h.2⟩
theorem OKG_weigh {G : GS} {u v : Int} (h : OKG G) : OKG (weighF G u v).2 := by
  unfold weighF
  split
  · exact h
  · split
    · exact h
    · split
      · exact h
      · refine ⟨⟨⟨h.1.1.1, h.1.1.2.1, ?_⟩, h.1.2.1, fun q hq => ?_⟩, h.2⟩
        · have := h.1.1.2.2
          show (G.1.2.2 ++ [(u, v)]).length ≤ 6
          rw [List.length_append, List.length_singleton]
          omega
        · rcases List.mem_append.mp hq with hq | hq
          · exact h.1.2.2 q hq
          · rw [List.mem_singleton.mp hq]
            show 1 ≤ u ∧ u ≤ 63 ∧ 0 ≤ v ∧ v ≤ 240
            omega
theorem OKG_forget {G : GS} (h : OKG G) : OKG (forgetF G).2 := ⟨⟨⟨h.1.1.1, h.1.1.2.1, by show 0 ≤ 6; omega⟩, h.1.2.1, (fun q hq => by cases hq)⟩, h.2⟩
theorem OKG_image {G : GS} {n : Int} (h : OKG G) : OKG (imageF G n).2 := by
  unfold imageF
  split
  · exact h
  · refine ⟨h.1, h.2.1, fun i H hi => ?_⟩
    have hi2 : fu G.2.2 n (some G.1) i = some H := hi
    by_cases e : i = n
    · subst e
      rw [fu_same] at hi2
      rw [← Option.some.inj hi2]
      exact h.1
    · rw [fu_ne e] at hi2
      exact h.2.2 i H hi2
theorem OKG_restore {G : GS} {n : Int} (h : OKG G) : OKG (restoreF G n).2 := by
  unfold restoreF
  split
  · exact h
  · cases hn : G.2.2 n with
    | none => exact h
    | some H => exact ⟨h.2.2 n H hn, h.2⟩
theorem OKG_lock {G : GS} {r l w : Int} : (lockF G r l w).2 = G := by
  unfold lockF
  repeat' split
  all_goals rfl
theorem OKG_power {G : GS} {r : Int} : (powerF G r).2 = G := by
  unfold powerF
  repeat' split
  all_goals rfl
theorem OKG_broken {G : GS} {l : Int} : (brokenF G l).2 = G := by
  unfold brokenF
  repeat' split
  all_goals rfl
theorem OKG_led {G : GS} {m w : Int} : (ledF G m w).2 = G := by
  unfold ledF
  repeat' split
  all_goals rfl
theorem OKG_best {G : GS} {i : Int} : (bestF G i).2 = G := by
  unfold bestF
  repeat' split
  all_goals rfl
theorem OKG_renew {G : GS} {w n i : Int} : (renewF G w n i).2 = G := by
  unfold renewF
  repeat' split
  all_goals rfl
theorem OKG_soon {G : GS} {s d r n : Int} : (soonF G s d r n).2 = G := by
  unfold soonF
  repeat' split
  all_goals rfl
theorem OKG_can {G : GS} {i : Int} : (canF G i).2 = G := by
  unfold canF
  repeat' split
  all_goals rfl
theorem OKG_sure {G : GS} {w : Int} : (sureF G w).2 = G := by
  unfold sureF
  repeat' split
  all_goals rfl
theorem OKG_year {G : GS} {s w p : Int} : (yearF G s w p).2 = G := by
  unfold yearF
  repeat' split
  all_goals rfl
theorem OKG_told {G : GS} {w : Int} : (toldF G w).2 = G := by
  unfold toldF
  repeat' split
  all_goals rfl
theorem OKG_judge2 {G : GS} {w : Int} : (judgeF G w).2 = G := by
  unfold judgeF
  repeat' split
  all_goals rfl
