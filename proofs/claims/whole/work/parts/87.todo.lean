theorem q_plan {S T : St} (h : Rel S T) (x : Int32) : Agr [(eIA, 1)] (uX8_plan x S) (uX9_plan x T) := sorry
theorem q_best {S T : St} (h : Rel S T) (x : Int32) : Agr [(eIA, 1)] (uX8_best x S) (uX9_best x T) := sorry
