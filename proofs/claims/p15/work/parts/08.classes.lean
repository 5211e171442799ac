abbrev RX0 : String := "WorkHall"
def TX0 : u_T := fun k => match k with
  | 0 => ("WorkHall", "core", "I", true)
  | 1 => ("WorkHall", "most", "I", true)
  | 2 => ("WorkHall", "room", "I", true)
  | 3 => ("WorkHall", "policy", "I", true)
  | 4 => ("WorkHall", "jobs", "[LWorkHall$Job;", true)
  | 5 => ("WorkHall", "crew", "LWorkHall$Crew;", true)
  | 6 => ("WorkHall", "line", "LWorkHall$Line;", true)
  | 7 => ("WorkHall", "timetable", "LWorkHall$Timetable;", true)
  | 8 => ("WorkHall", "made", "I", false)
  | 9 => ("WorkHall", "phase", "I", false)
  | 10 => ("WorkHall", "finished", "I", false)
  | _ => ("WorkHall", "time", "D", false)
def tyX0 : Nat → FieldType := fun k => match k with
  | 0 => .int
  | 1 => .int
  | 2 => .int
  | 3 => .int
  | 4 => .array (.object "WorkHall$Job")
  | 5 => .object "WorkHall$Crew"
  | 6 => .object "WorkHall$Line"
  | 7 => .object "WorkHall$Timetable"
  | 8 => .int
  | 9 => .int
  | 10 => .int
  | _ => .double
theorem nmX0 : ∀ a, a < 12 → ∀ b, b < 12 → a ≠ b → (TX0 a).2.1 ≠ (TX0 b).2.1 := by decide +kernel
theorem tyX0_ok : ∀ k, k < 12 → parseFieldDescriptor (TX0 k).2.2.1 = some (tyX0 k) := by decide +kernel
theorem uwX0 : ∀ w ∈ u_ws RX0 TX0 12, w ∈ gW := by
  have h : (u_ws RX0 TX0 12).all (fun w => decide (w ∈ lw_tbl) && goodWord w) = true := by decide +kernel
  intro w hw
  have h1 := List.all_eq_true.mp h w hw
  simp only [Bool.and_eq_true, decide_eq_true_eq] at h1
  exact List.mem_filter.mpr h1
abbrev RX1 : String := "WorkHall$Crew"
def TX1 : u_T := fun k => match k with
  | 0 => ("WorkHall$Crew", "workers", "[LWorkHall$Worker;", true)
  | 1 => ("WorkHall$Crew", "size", "I", false)
  | _ => ("WorkHall$Crew", "mostSeen", "I", false)
def tyX1 : Nat → FieldType := fun k => match k with
  | 0 => .array (.object "WorkHall$Worker")
  | 1 => .int
  | _ => .int
theorem nmX1 : ∀ a, a < 3 → ∀ b, b < 3 → a ≠ b → (TX1 a).2.1 ≠ (TX1 b).2.1 := by decide +kernel
theorem tyX1_ok : ∀ k, k < 3 → parseFieldDescriptor (TX1 k).2.2.1 = some (tyX1 k) := by decide +kernel
theorem uwX1 : ∀ w ∈ u_ws RX1 TX1 3, w ∈ gW := by
  have h : (u_ws RX1 TX1 3).all (fun w => decide (w ∈ lw_tbl) && goodWord w) = true := by decide +kernel
  intro w hw
  have h1 := List.all_eq_true.mp h w hw
  simp only [Bool.and_eq_true, decide_eq_true_eq] at h1
  exact List.mem_filter.mpr h1
abbrev RX2 : String := "WorkHall$Line"
def TX2 : u_T := fun k => match k with
  | 0 => ("WorkHall$Line", "jobs", "[LWorkHall$Job;", true)
  | 1 => ("WorkHall$Line", "came", "[D", true)
  | 2 => ("WorkHall$Line", "size", "I", false)
  | 3 => ("WorkHall$Line", "taken", "I", false)
  | _ => ("WorkHall$Line", "waited", "D", false)
def tyX2 : Nat → FieldType := fun k => match k with
  | 0 => .array (.object "WorkHall$Job")
  | 1 => .array .double
  | 2 => .int
  | 3 => .int
  | _ => .double
theorem nmX2 : ∀ a, a < 5 → ∀ b, b < 5 → a ≠ b → (TX2 a).2.1 ≠ (TX2 b).2.1 := by decide +kernel
theorem tyX2_ok : ∀ k, k < 5 → parseFieldDescriptor (TX2 k).2.2.1 = some (tyX2 k) := by decide +kernel
theorem uwX2 : ∀ w ∈ u_ws RX2 TX2 5, w ∈ gW := by
  have h : (u_ws RX2 TX2 5).all (fun w => decide (w ∈ lw_tbl) && goodWord w) = true := by decide +kernel
  intro w hw
  have h1 := List.all_eq_true.mp h w hw
  simp only [Bool.and_eq_true, decide_eq_true_eq] at h1
  exact List.mem_filter.mpr h1
abbrev RX3 : String := "WorkHall$Timetable"
def TX3 : u_T := fun k => match k with
  | 0 => ("WorkHall$Timetable", "jobs", "[LWorkHall$Job;", true)
  | 1 => ("WorkHall$Timetable", "times", "[D", true)
  | 2 => ("WorkHall$Timetable", "periods", "[D", true)
  | _ => ("WorkHall$Timetable", "size", "I", false)
def tyX3 : Nat → FieldType := fun k => match k with
  | 0 => .array (.object "WorkHall$Job")
  | 1 => .array .double
  | 2 => .array .double
  | _ => .int
theorem nmX3 : ∀ a, a < 4 → ∀ b, b < 4 → a ≠ b → (TX3 a).2.1 ≠ (TX3 b).2.1 := by decide +kernel
theorem tyX3_ok : ∀ k, k < 4 → parseFieldDescriptor (TX3 k).2.2.1 = some (tyX3 k) := by decide +kernel
theorem uwX3 : ∀ w ∈ u_ws RX3 TX3 4, w ∈ gW := by
  have h : (u_ws RX3 TX3 4).all (fun w => decide (w ∈ lw_tbl) && goodWord w) = true := by decide +kernel
  intro w hw
  have h1 := List.all_eq_true.mp h w hw
  simp only [Bool.and_eq_true, decide_eq_true_eq] at h1
  exact List.mem_filter.mpr h1
abbrev RX4 : String := "WorkHall$Worker"
def TX4 : u_T := fun k => match k with
  | 0 => ("WorkHall$Worker", "job", "LWorkHall$Job;", false)
  | 1 => ("WorkHall$Worker", "left", "I", false)
  | _ => ("WorkHall$Worker", "idleSince", "D", false)
def tyX4 : Nat → FieldType := fun k => match k with
  | 0 => .object "WorkHall$Job"
  | 1 => .int
  | _ => .double
theorem nmX4 : ∀ a, a < 3 → ∀ b, b < 3 → a ≠ b → (TX4 a).2.1 ≠ (TX4 b).2.1 := by decide +kernel
theorem tyX4_ok : ∀ k, k < 3 → parseFieldDescriptor (TX4 k).2.2.1 = some (tyX4 k) := by decide +kernel
theorem uwX4 : ∀ w ∈ u_ws RX4 TX4 3, w ∈ gW := by
  have h : (u_ws RX4 TX4 3).all (fun w => decide (w ∈ lw_tbl) && goodWord w) = true := by decide +kernel
  intro w hw
  have h1 := List.all_eq_true.mp h w hw
  simp only [Bool.and_eq_true, decide_eq_true_eq] at h1
  exact List.mem_filter.mpr h1
abbrev RX5 : String := "WorkHall$Job"
def TX5 : u_T := fun k => match k with
  | 0 => ("WorkHall$Job", "number", "I", true)
  | 1 => ("WorkHall$Job", "kind", "I", true)
  | 2 => ("WorkHall$Job", "a", "I", true)
  | 3 => ("WorkHall$Job", "b", "I", true)
  | 4 => ("WorkHall$Job", "cost", "I", true)
  | 5 => ("WorkHall$Job", "state", "I", false)
  | 6 => ("WorkHall$Job", "result", "I", false)
  | 7 => ("WorkHall$Job", "thrown", "I", false)
  | _ => ("WorkHall$Job", "next", "LWorkHall$Job;", false)
def tyX5 : Nat → FieldType := fun k => match k with
  | 0 => .int
  | 1 => .int
  | 2 => .int
  | 3 => .int
  | 4 => .int
  | 5 => .int
  | 6 => .int
  | 7 => .int
  | _ => .object "WorkHall$Job"
theorem nmX5 : ∀ a, a < 9 → ∀ b, b < 9 → a ≠ b → (TX5 a).2.1 ≠ (TX5 b).2.1 := by decide +kernel
theorem tyX5_ok : ∀ k, k < 9 → parseFieldDescriptor (TX5 k).2.2.1 = some (tyX5 k) := by decide +kernel
theorem uwX5 : ∀ w ∈ u_ws RX5 TX5 9, w ∈ gW := by
  have h : (u_ws RX5 TX5 9).all (fun w => decide (w ∈ lw_tbl) && goodWord w) = true := by decide +kernel
  intro w hw
  have h1 := List.all_eq_true.mp h w hw
  simp only [Bool.and_eq_true, decide_eq_true_eq] at h1
  exact List.mem_filter.mpr h1
abbrev RX6 : String := "WorkHallModel"
def TX6 : u_T := fun k => match k with
  | 0 => ("WorkHallModel", "failed", "I", false)
  | 1 => ("WorkHallModel", "core", "I", true)
  | 2 => ("WorkHallModel", "most", "I", true)
  | 3 => ("WorkHallModel", "room", "I", true)
  | 4 => ("WorkHallModel", "policy", "I", true)
  | 5 => ("WorkHallModel", "kind", "[I", true)
  | 6 => ("WorkHallModel", "a", "[I", true)
  | 7 => ("WorkHallModel", "b", "[I", true)
  | 8 => ("WorkHallModel", "cost", "[I", true)
  | 9 => ("WorkHallModel", "state", "[I", true)
  | 10 => ("WorkHallModel", "next", "[I", true)
  | 11 => ("WorkHallModel", "result", "[I", true)
  | 12 => ("WorkHallModel", "threw", "[I", true)
  | 13 => ("WorkHallModel", "jobs", "I", false)
  | 14 => ("WorkHallModel", "pool", "I", false)
  | 15 => ("WorkHallModel", "who", "[I", true)
  | 16 => ("WorkHallModel", "busy", "[I", true)
  | 17 => ("WorkHallModel", "left", "[I", true)
  | 18 => ("WorkHallModel", "idle", "[D", true)
  | 19 => ("WorkHallModel", "workers", "I", false)
  | 20 => ("WorkHallModel", "named", "I", false)
  | 21 => ("WorkHallModel", "peak", "I", false)
  | 22 => ("WorkHallModel", "queue", "[I", true)
  | 23 => ("WorkHallModel", "came", "[D", true)
  | 24 => ("WorkHallModel", "queued", "I", false)
  | 25 => ("WorkHallModel", "entryJob", "[I", true)
  | 26 => ("WorkHallModel", "entryTime", "[D", true)
  | 27 => ("WorkHallModel", "entryPeriod", "[D", true)
  | 28 => ("WorkHallModel", "entries", "I", false)
  | 29 => ("WorkHallModel", "time", "D", false)
  | 30 => ("WorkHallModel", "ended", "I", false)
  | 31 => ("WorkHallModel", "delaySum", "D", false)
  | 32 => ("WorkHallModel", "delayCount", "I", false)
  | 33 => ("WorkHallModel", "doing", "[I", true)
  | 34 => ("WorkHallModel", "stage", "[I", true)
  | _ => ("WorkHallModel", "top", "I", false)
def tyX6 : Nat → FieldType := fun k => match k with
  | 0 => .int
  | 1 => .int
  | 2 => .int
  | 3 => .int
  | 4 => .int
  | 5 => .array .int
  | 6 => .array .int
  | 7 => .array .int
  | 8 => .array .int
  | 9 => .array .int
  | 10 => .array .int
  | 11 => .array .int
  | 12 => .array .int
  | 13 => .int
  | 14 => .int
  | 15 => .array .int
  | 16 => .array .int
  | 17 => .array .int
  | 18 => .array .double
  | 19 => .int
  | 20 => .int
  | 21 => .int
  | 22 => .array .int
  | 23 => .array .double
  | 24 => .int
  | 25 => .array .int
  | 26 => .array .double
  | 27 => .array .double
  | 28 => .int
  | 29 => .double
  | 30 => .int
  | 31 => .double
  | 32 => .int
  | 33 => .array .int
  | 34 => .array .int
  | _ => .int
theorem nmX6 : ∀ a, a < 36 → ∀ b, b < 36 → a ≠ b → (TX6 a).2.1 ≠ (TX6 b).2.1 := by decide +kernel
theorem tyX6_ok : ∀ k, k < 36 → parseFieldDescriptor (TX6 k).2.2.1 = some (tyX6 k) := by decide +kernel
theorem uwX6 : ∀ w ∈ u_ws RX6 TX6 36, w ∈ gW := by
  have h : (u_ws RX6 TX6 36).all (fun w => decide (w ∈ lw_tbl) && goodWord w) = true := by decide +kernel
  intro w hw
  have h1 := List.all_eq_true.mp h w hw
  simp only [Bool.and_eq_true, decide_eq_true_eq] at h1
  exact List.mem_filter.mpr h1
abbrev vwCl : List vw_C := [(RX0, TX0, 12), (RX1, TX1, 3), (RX2, TX2, 5), (RX3, TX3, 4), (RX4, TX4, 3), (RX5, TX5, 9), (RX6, TX6, 36)]
