theorem cu_X0 : ∀ q ∈ u_ws RX0 TX0 12, q ∈ GW := by
  have e : u_ws RX0 TX0 12 = [Cond.lays RX0 "VersionSearch$Archive" "documents" "I", Cond.lays RX0 "VersionSearch$Archive" "tokens" "I", Cond.lays RX0 "VersionSearch$Archive" "words" "I", Cond.laysFinal RX0 "VersionSearch$Archive" "versions" "[I", Cond.laysFinal RX0 "VersionSearch$Archive" "dates" "[I", Cond.laysFinal RX0 "VersionSearch$Archive" "lengths" "[I", Cond.laysFinal RX0 "VersionSearch$Archive" "rows" "[I", Cond.laysFinal RX0 "VersionSearch$Archive" "spellings" "[I", Cond.laysFinal RX0 "VersionSearch$Archive" "owners" "[I", Cond.laysFinal RX0 "VersionSearch$Archive" "stays" "[I", Cond.laysFinal RX0 "VersionSearch$Archive" "wordList" "[I", Cond.laysFinal RX0 "VersionSearch$Archive" "wordSlots" "[J"] := by decide +kernel
  rw [e]
  exact List.forall_mem_cons.mpr ⟨tw234, List.forall_mem_cons.mpr ⟨tw236, List.forall_mem_cons.mpr ⟨tw238, List.forall_mem_cons.mpr ⟨tw240, List.forall_mem_cons.mpr ⟨tw242, List.forall_mem_cons.mpr ⟨tw244, List.forall_mem_cons.mpr ⟨tw246, List.forall_mem_cons.mpr ⟨tw248, List.forall_mem_cons.mpr ⟨tw250, List.forall_mem_cons.mpr ⟨tw252, List.forall_mem_cons.mpr ⟨tw254, List.forall_mem_cons.mpr ⟨tw256, fun _ h => absurd h List.not_mem_nil⟩⟩⟩⟩⟩⟩⟩⟩⟩⟩⟩⟩
theorem cl_X0 : ClOk 1 RX0 TX0 12 tyX0 := ⟨rfl, by decide, by decide, cu_X0, tyX0_ok, nmX0, tw206, tw141⟩
theorem dv_X0 : ∀ j, j < 12 → defaultValue (tyX0 j) = if fk 1 j = 1 then .long 0 else if fk 1 j = 0 then .int 0 else .null := by decide +kernel
theorem cu_X1 : ∀ q ∈ u_ws RX1 TX1 3, q ∈ GW := by
  have e : u_ws RX1 TX1 3 = [Cond.laysFinal RX1 "VersionSearch$Drawing" "grown" "LVersionSearch$Archive;", Cond.laysFinal RX1 "VersionSearch$Drawing" "oneWord" "[I", Cond.lays RX1 "VersionSearch$Drawing" "x" "I"] := by decide +kernel
  rw [e]
  exact List.forall_mem_cons.mpr ⟨tw439, List.forall_mem_cons.mpr ⟨tw441, List.forall_mem_cons.mpr ⟨tw443, fun _ h => absurd h List.not_mem_nil⟩⟩⟩
theorem cl_X1 : ClOk 2 RX1 TX1 3 tyX1 := ⟨rfl, by decide, by decide, cu_X1, tyX1_ok, nmX1, tw429, tw148⟩
theorem dv_X1 : ∀ j, j < 3 → defaultValue (tyX1 j) = if fk 2 j = 1 then .long 0 else if fk 2 j = 0 then .int 0 else .null := by decide +kernel
theorem cu_X2 : ∀ q ∈ u_ws RX2 TX2 1, q ∈ GW := by
  have e : u_ws RX2 TX2 1 = [Cond.laysFinal RX2 "VersionSearch$History" "commonRow" "[I"] := by decide +kernel
  rw [e]
  exact List.forall_mem_cons.mpr ⟨tw415, fun _ h => absurd h List.not_mem_nil⟩
theorem cl_X2 : ClOk 3 RX2 TX2 1 tyX2 := ⟨rfl, by decide, by decide, cu_X2, tyX2_ok, nmX2, tw409, tw146⟩
theorem dv_X2 : ∀ j, j < 1 → defaultValue (tyX2 j) = if fk 3 j = 1 then .long 0 else if fk 3 j = 0 then .int 0 else .null := by decide +kernel
theorem cu_X3 : ∀ q ∈ u_ws RX3 TX3 2, q ∈ GW := by
  have e : u_ws RX3 TX3 2 = [Cond.lays RX3 "VersionSearch$Hunt" "size" "I", Cond.laysFinal RX3 "VersionSearch$Hunt" "parts" "[I"] := by decide +kernel
  rw [e]
  exact List.forall_mem_cons.mpr ⟨tw294, List.forall_mem_cons.mpr ⟨tw296, fun _ h => absurd h List.not_mem_nil⟩⟩
theorem cl_X3 : ClOk 4 RX3 TX3 2 tyX3 := ⟨rfl, by decide, by decide, cu_X3, tyX3_ok, nmX3, tw285, tw143⟩
theorem dv_X3 : ∀ j, j < 2 → defaultValue (tyX3 j) = if fk 4 j = 1 then .long 0 else if fk 4 j = 0 then .int 0 else .null := by decide +kernel
theorem cu_X4 : ∀ q ∈ u_ws RX4 TX4 9, q ∈ GW := by
  have e : u_ws RX4 TX4 9 = [Cond.lays RX4 "VersionSearch$Line" "kind" "I", Cond.lays RX4 "VersionSearch$Line" "place" "I", Cond.lays RX4 "VersionSearch$Line" "numbers" "I", Cond.lays RX4 "VersionSearch$Line" "words" "I", Cond.lays RX4 "VersionSearch$Line" "misspeltPlace" "I", Cond.laysFinal RX4 "VersionSearch$Line" "values" "[I", Cond.laysFinal RX4 "VersionSearch$Line" "valuePlaces" "[I", Cond.laysFinal RX4 "VersionSearch$Line" "spellings" "[I", Cond.laysFinal RX4 "VersionSearch$Line" "wordPlaces" "[I"] := by decide +kernel
  rw [e]
  exact List.forall_mem_cons.mpr ⟨tw359, List.forall_mem_cons.mpr ⟨tw361, List.forall_mem_cons.mpr ⟨tw363, List.forall_mem_cons.mpr ⟨tw365, List.forall_mem_cons.mpr ⟨tw367, List.forall_mem_cons.mpr ⟨tw369, List.forall_mem_cons.mpr ⟨tw371, List.forall_mem_cons.mpr ⟨tw373, List.forall_mem_cons.mpr ⟨tw375, fun _ h => absurd h List.not_mem_nil⟩⟩⟩⟩⟩⟩⟩⟩⟩
theorem cl_X4 : ClOk 5 RX4 TX4 9 tyX4 := ⟨rfl, by decide, by decide, cu_X4, tyX4_ok, nmX4, tw332, tw145⟩
theorem dv_X4 : ∀ j, j < 9 → defaultValue (tyX4 j) = if fk 5 j = 1 then .long 0 else if fk 5 j = 0 then .int 0 else .null := by decide +kernel
theorem cu_X6 : ∀ q ∈ u_ws RX6 TX6 5, q ∈ GW := by
  have e : u_ws RX6 TX6 5 = [Cond.lays RX6 "VersionSearch$Questions" "size" "I", Cond.laysFinal RX6 "VersionSearch$Questions" "kinds" "[I", Cond.laysFinal RX6 "VersionSearch$Questions" "values" "[I", Cond.laysFinal RX6 "VersionSearch$Questions" "wordCounts" "[I", Cond.laysFinal RX6 "VersionSearch$Questions" "spellings" "[I"] := by decide +kernel
  rw [e]
  exact List.forall_mem_cons.mpr ⟨tw274, List.forall_mem_cons.mpr ⟨tw276, List.forall_mem_cons.mpr ⟨tw278, List.forall_mem_cons.mpr ⟨tw280, List.forall_mem_cons.mpr ⟨tw282, fun _ h => absurd h List.not_mem_nil⟩⟩⟩⟩⟩
theorem cl_X6 : ClOk 6 RX6 TX6 5 tyX6 := ⟨rfl, by decide, by decide, cu_X6, tyX6_ok, nmX6, tw261, tw142⟩
theorem dv_X6 : ∀ j, j < 5 → defaultValue (tyX6 j) = if fk 6 j = 1 then .long 0 else if fk 6 j = 0 then .int 0 else .null := by decide +kernel
theorem cu_X7 : ∀ q ∈ u_ws RX7 TX7 6, q ∈ GW := by
  have e : u_ws RX7 TX7 6 = [Cond.laysFinal RX7 "VersionSearch$Reade\x72" "line" "LVersionSearch$Line;", Cond.laysFinal RX7 "VersionSearch$Reade\x72" "archive" "LVersionSearch$Archive;", Cond.laysFinal RX7 "VersionSearch$Reade\x72" "questions" "LVersionSearch$Questions;", Cond.laysFinal RX7 "VersionSearch$Reade\x72" "hunt" "LVersionSearch$Hunt;", Cond.lays RX7 "VersionSearch$Reade\x72" "faultSort" "I", Cond.lays RX7 "VersionSearch$Reade\x72" "faultPlace" "I"] := by decide +kernel
  rw [e]
  exact List.forall_mem_cons.mpr ⟨tw395, List.forall_mem_cons.mpr ⟨tw397, List.forall_mem_cons.mpr ⟨tw399, List.forall_mem_cons.mpr ⟨tw401, List.forall_mem_cons.mpr ⟨tw403, List.forall_mem_cons.mpr ⟨tw405, fun _ h => absurd h List.not_mem_nil⟩⟩⟩⟩⟩⟩
theorem cl_X7 : ClOk 7 RX7 TX7 6 tyX7 := ⟨rfl, by decide, by decide, cu_X7, tyX7_ok, nmX7, tw326, tw144⟩
theorem dv_X7 : ∀ j, j < 6 → defaultValue (tyX7 j) = if fk 7 j = 1 then .long 0 else if fk 7 j = 0 then .int 0 else .null := by decide +kernel
theorem cu_X8 : ∀ q ∈ u_ws RX8 TX8 1, q ∈ GW := by
  have e : u_ws RX8 TX8 1 = [Cond.laysFinal RX8 "VersionSearch$Search" "heldBits" "[I"] := by decide +kernel
  rw [e]
  exact List.forall_mem_cons.mpr ⟨tw425, fun _ h => absurd h List.not_mem_nil⟩
theorem cl_X8 : ClOk 8 RX8 TX8 1 tyX8 := ⟨rfl, by decide, by decide, cu_X8, tyX8_ok, nmX8, tw419, tw147⟩
theorem dv_X8 : ∀ j, j < 1 → defaultValue (tyX8 j) = if fk 8 j = 1 then .long 0 else if fk 8 j = 0 then .int 0 else .null := by decide +kernel
theorem cu_X9 : ∀ q ∈ u_ws RX9 TX9 7, q ∈ GW := by
  have e : u_ws RX9 TX9 7 = [Cond.laysFinal RX9 "VersionSearch$State" "tape" "LVersionSearch$Tape;", Cond.lays RX9 "VersionSearch$State" "faultSort" "I", Cond.lays RX9 "VersionSearch$State" "faultPlace" "I", Cond.laysFinal RX9 "VersionSearch$State" "counts" "[I", Cond.laysFinal RX9 "VersionSearch$State" "archives" "[LVersionSearch$Archive;", Cond.laysFinal RX9 "VersionSearch$State" "questions" "[LVersionSearch$Questions;", Cond.laysFinal RX9 "VersionSearch$State" "hunts" "[LVersionSearch$Hunt;"] := by decide +kernel
  rw [e]
  exact List.forall_mem_cons.mpr ⟨tw309, List.forall_mem_cons.mpr ⟨tw311, List.forall_mem_cons.mpr ⟨tw313, List.forall_mem_cons.mpr ⟨tw315, List.forall_mem_cons.mpr ⟨tw317, List.forall_mem_cons.mpr ⟨tw319, List.forall_mem_cons.mpr ⟨tw321, fun _ h => absurd h List.not_mem_nil⟩⟩⟩⟩⟩⟩⟩
theorem cl_X9 : ClOk 9 RX9 TX9 7 tyX9 := ⟨rfl, by decide, by decide, cu_X9, tyX9_ok, nmX9, tw168, tw139⟩
theorem dv_X9 : ∀ j, j < 7 → defaultValue (tyX9 j) = if fk 9 j = 1 then .long 0 else if fk 9 j = 0 then .int 0 else .null := by decide +kernel
theorem cu_X10 : ∀ q ∈ u_ws RX10 TX10 5, q ∈ GW := by
  have e : u_ws RX10 TX10 5 = [Cond.laysFinal RX10 "VersionSearch$Tape" "bytes" "[B", Cond.lays RX10 "VersionSearch$Tape" "length" "I", Cond.lays RX10 "VersionSearch$Tape" "token" "I", Cond.lays RX10 "VersionSearch$Tape" "from" "I", Cond.lays RX10 "VersionSearch$Tape" "to" "I"] := by decide +kernel
  rw [e]
  exact List.forall_mem_cons.mpr ⟨tw188, List.forall_mem_cons.mpr ⟨tw190, List.forall_mem_cons.mpr ⟨tw192, List.forall_mem_cons.mpr ⟨tw194, List.forall_mem_cons.mpr ⟨tw196, fun _ h => absurd h List.not_mem_nil⟩⟩⟩⟩⟩
theorem cl_X10 : ClOk 10 RX10 TX10 5 tyX10 := ⟨rfl, by decide, by decide, cu_X10, tyX10_ok, nmX10, tw174, tw140⟩
theorem dv_X10 : ∀ j, j < 5 → defaultValue (tyX10 j) = if fk 10 j = 1 then .long 0 else if fk 10 j = 0 then .int 0 else .null := by decide +kernel
theorem cu_X11 : ∀ q ∈ u_ws RX11 TX11 6, q ∈ GW := by
  have e : u_ws RX11 TX11 6 = [Cond.laysFinal RX11 "VersionSearch" "now" "LVersionSearch$State;", Cond.laysFinal RX11 "VersionSearch" "images" "[LVersionSearch$State;", Cond.laysFinal RX11 "VersionSearch" "reade\x72" "LVersionSearch$Reader;", Cond.laysFinal RX11 "VersionSearch" "history" "LVersionSearch$History;", Cond.laysFinal RX11 "VersionSearch" "search" "LVersionSearch$Search;", Cond.laysFinal RX11 "VersionSearch" "drawing" "LVersionSearch$Drawing;"] := by decide +kernel
  rw [e]
  exact List.forall_mem_cons.mpr ⟨tw452, List.forall_mem_cons.mpr ⟨tw454, List.forall_mem_cons.mpr ⟨tw456, List.forall_mem_cons.mpr ⟨tw458, List.forall_mem_cons.mpr ⟨tw460, List.forall_mem_cons.mpr ⟨tw462, fun _ h => absurd h List.not_mem_nil⟩⟩⟩⟩⟩⟩
theorem cl_X11 : ClOk 11 RX11 TX11 6 tyX11 := ⟨rfl, by decide, by decide, cu_X11, tyX11_ok, nmX11, tw160, tw138⟩
theorem dv_X11 : ∀ j, j < 6 → defaultValue (tyX11 j) = if fk 11 j = 1 then .long 0 else if fk 11 j = 0 then .int 0 else .null := by decide +kernel
theorem cu_X12 : ∀ q ∈ u_ws RX12 TX12 37, q ∈ GW := by
  have e : u_ws RX12 TX12 37 = [Cond.lays RX12 "VersionSearchModel" "code" "I", Cond.laysFinal RX12 "VersionSearchModel" "tape" "[B", Cond.laysFinal RX12 "VersionSearchModel" "size" "[I", Cond.laysFinal RX12 "VersionSearchModel" "fault" "[I", Cond.laysFinal RX12 "VersionSearchModel" "faultPlace" "[I", Cond.laysFinal RX12 "VersionSearchModel" "many" "[I", Cond.laysFinal RX12 "VersionSearchModel" "archives" "[I", Cond.laysFinal RX12 "VersionSearchModel" "askings" "[I", Cond.laysFinal RX12 "VersionSearchModel" "hunts" "[I", Cond.lays RX12 "VersionSearchModel" "reached" "I", Cond.lays RX12 "VersionSearchModel" "length" "I", Cond.lays RX12 "VersionSearchModel" "begins" "I", Cond.lays RX12 "VersionSearchModel" "sort" "I", Cond.lays RX12 "VersionSearchModel" "value" "I", Cond.lays RX12 "VersionSearchModel" "word" "J", Cond.lays RX12 "VersionSearchModel" "wrongAt" "I", Cond.lays RX12 "VersionSearchModel" "laterFault" "I", Cond.lays RX12 "VersionSearchModel" "laterPlace" "I", Cond.laysFinal RX12 "VersionSearchModel" "told" "[I", Cond.laysFinal RX12 "VersionSearchModel" "read" "[I", Cond.laysFinal RX12 "VersionSearchModel" "readWords" "[I", Cond.lays RX12 "VersionSearchModel" "wordsRead" "I", Cond.lays RX12 "VersionSearchModel" "good" "Z", Cond.lays RX12 "VersionSearchModel" "line" "I", Cond.lays RX12 "VersionSearchModel" "tokens" "I", Cond.lays RX12 "VersionSearchModel" "wordsAll" "I", Cond.laysFinal RX12 "VersionSearchModel" "words" "[I", Cond.laysFinal RX12 "VersionSearchModel" "same" "[I", Cond.lays RX12 "VersionSearchModel" "asking" "I", Cond.laysFinal RX12 "VersionSearchModel" "held" "[I", Cond.lays RX12 "VersionSearchModel" "hunt" "I", Cond.lays RX12 "VersionSearchModel" "fit" "I", Cond.lays RX12 "VersionSearchModel" "asked" "I", Cond.lays RX12 "VersionSearchModel" "firsts" "I", Cond.laysFinal RX12 "VersionSearchModel" "seen" "[I", Cond.lays RX12 "VersionSearchModel" "seed" "I", Cond.laysFinal RX12 "VersionSearchModel" "saved" "[Z"] := by decide +kernel
  rw [e]
  exact List.forall_mem_cons.mpr ⟨tw1410, List.forall_mem_cons.mpr ⟨tw1412, List.forall_mem_cons.mpr ⟨tw1414, List.forall_mem_cons.mpr ⟨tw1416, List.forall_mem_cons.mpr ⟨tw1418, List.forall_mem_cons.mpr ⟨tw1420, List.forall_mem_cons.mpr ⟨tw1422, List.forall_mem_cons.mpr ⟨tw1424, List.forall_mem_cons.mpr ⟨tw1426, List.forall_mem_cons.mpr ⟨tw1428, List.forall_mem_cons.mpr ⟨tw1430, List.forall_mem_cons.mpr ⟨tw1432, List.forall_mem_cons.mpr ⟨tw1434, List.forall_mem_cons.mpr ⟨tw1436, List.forall_mem_cons.mpr ⟨tw1438, List.forall_mem_cons.mpr ⟨tw1440, List.forall_mem_cons.mpr ⟨tw1442, List.forall_mem_cons.mpr ⟨tw1444, List.forall_mem_cons.mpr ⟨tw1446, List.forall_mem_cons.mpr ⟨tw1448, List.forall_mem_cons.mpr ⟨tw1450, List.forall_mem_cons.mpr ⟨tw1452, List.forall_mem_cons.mpr ⟨tw1454, List.forall_mem_cons.mpr ⟨tw1456, List.forall_mem_cons.mpr ⟨tw1458, List.forall_mem_cons.mpr ⟨tw1460, List.forall_mem_cons.mpr ⟨tw1462, List.forall_mem_cons.mpr ⟨tw1464, List.forall_mem_cons.mpr ⟨tw1466, List.forall_mem_cons.mpr ⟨tw1468, List.forall_mem_cons.mpr ⟨tw1470, List.forall_mem_cons.mpr ⟨tw1472, List.forall_mem_cons.mpr ⟨tw1474, List.forall_mem_cons.mpr ⟨tw1476, List.forall_mem_cons.mpr ⟨tw1478, List.forall_mem_cons.mpr ⟨tw1480, List.forall_mem_cons.mpr ⟨tw1482, fun _ h => absurd h List.not_mem_nil⟩⟩⟩⟩⟩⟩⟩⟩⟩⟩⟩⟩⟩⟩⟩⟩⟩⟩⟩⟩⟩⟩⟩⟩⟩⟩⟩⟩⟩⟩⟩⟩⟩⟩⟩⟩⟩
theorem cl_X12 : ClOk 12 RX12 TX12 37 tyX12 := ⟨rfl, by decide, by decide, cu_X12, tyX12_ok, nmX12, tw1368, tw149⟩
theorem dv_X12 : ∀ j, j < 37 → defaultValue (tyX12 j) = if fk 12 j = 1 then .long 0 else if fk 12 j = 0 then .int 0 else .null := by decide +kernel
theorem fd_X11_10 : FdOk RX11 10 11 0 2 (.object "VersionSearch$State") 1 := ⟨RX11, TX11, 6, tyX11, cl_X11, by decide, tw446, rfl, rfl, (fun q => absurd q (by decide)), (fun _ => ⟨rfl, rfl⟩)⟩
theorem fd_X11_16 : FdOk RX11 16 11 1 2 (.array (.object "VersionSearch$State")) 1 := ⟨RX11, TX11, 6, tyX11, cl_X11, by decide, tw447, rfl, rfl, (fun q => absurd q (by decide)), (fun _ => ⟨rfl, rfl⟩)⟩
theorem fd_X11_23 : FdOk RX11 23 11 2 2 (.object "VersionSearch$Reader") 1 := ⟨RX11, TX11, 6, tyX11, cl_X11, by decide, tw448, rfl, rfl, (fun q => absurd q (by decide)), (fun _ => ⟨rfl, rfl⟩)⟩
theorem fd_X11_30 : FdOk RX11 30 11 3 2 (.object "VersionSearch$History") 1 := ⟨RX11, TX11, 6, tyX11, cl_X11, by decide, tw449, rfl, rfl, (fun q => absurd q (by decide)), (fun _ => ⟨rfl, rfl⟩)⟩
theorem fd_X11_37 : FdOk RX11 37 11 4 2 (.object "VersionSearch$Search") 1 := ⟨RX11, TX11, 6, tyX11, cl_X11, by decide, tw450, rfl, rfl, (fun q => absurd q (by decide)), (fun _ => ⟨rfl, rfl⟩)⟩
theorem fd_X11_44 : FdOk RX11 44 11 5 2 (.object "VersionSearch$Drawing") 1 := ⟨RX11, TX11, 6, tyX11, cl_X11, by decide, tw451, rfl, rfl, (fun q => absurd q (by decide)), (fun _ => ⟨rfl, rfl⟩)⟩
theorem fd_X11_48 : FdOk RX11 48 9 0 2 (.object "VersionSearch$Tape") 2 := ⟨RX9, TX9, 7, tyX9, cl_X9, by decide, tw300, rfl, rfl, (fun q => absurd q (by decide)), (fun q => absurd q (by decide))⟩
theorem fd_X11_62 : FdOk RX11 62 10 1 0 .int 0 := ⟨RX10, TX10, 5, tyX10, cl_X10, by decide, tw181, rfl, rfl, (fun _ => rfl), (fun q => absurd q (by decide))⟩
theorem fd_X11_70 : FdOk RX11 70 9 1 0 .int 0 := ⟨RX9, TX9, 7, tyX9, cl_X9, by decide, tw302, rfl, rfl, (fun _ => rfl), (fun q => absurd q (by decide))⟩
theorem fd_X11_73 : FdOk RX11 73 9 2 0 .int 0 := ⟨RX9, TX9, 7, tyX9, cl_X9, by decide, tw304, rfl, rfl, (fun _ => rfl), (fun q => absurd q (by decide))⟩
theorem fd_X11_80 : FdOk RX11 80 7 4 0 .int 0 := ⟨RX7, TX7, 6, tyX7, cl_X7, by decide, tw392, rfl, rfl, (fun _ => rfl), (fun q => absurd q (by decide))⟩
theorem fd_X11_81 : FdOk RX11 81 7 5 0 .int 0 := ⟨RX7, TX7, 6, tyX7, cl_X7, by decide, tw394, rfl, rfl, (fun _ => rfl), (fun q => absurd q (by decide))⟩
theorem fd_X11_90 : FdOk RX11 90 1 0 0 .int 0 := ⟨RX0, TX0, 12, tyX0, cl_X0, by decide, tw215, rfl, rfl, (fun _ => rfl), (fun q => absurd q (by decide))⟩
theorem fd_X11_103 : FdOk RX11 103 1 1 0 .int 0 := ⟨RX0, TX0, 12, tyX0, cl_X0, by decide, tw219, rfl, rfl, (fun _ => rfl), (fun q => absurd q (by decide))⟩
theorem fd_X11_115 : FdOk RX11 115 1 2 0 .int 0 := ⟨RX0, TX0, 12, tyX0, cl_X0, by decide, tw221, rfl, rfl, (fun _ => rfl), (fun q => absurd q (by decide))⟩
theorem fd_X11_235 : FdOk RX11 235 6 0 0 .int 0 := ⟨RX6, TX6, 5, tyX6, cl_X6, by decide, tw268, rfl, rfl, (fun _ => rfl), (fun q => absurd q (by decide))⟩
theorem fd_X11_315 : FdOk RX11 315 4 0 0 .int 0 := ⟨RX3, TX3, 2, tyX3, cl_X3, by decide, tw292, rfl, rfl, (fun _ => rfl), (fun q => absurd q (by decide))⟩
theorem fd_X0_11 : FdOk RX0 11 1 0 0 .int 0 := ⟨RX0, TX0, 12, tyX0, cl_X0, by decide, tw211, rfl, rfl, (fun _ => rfl), (fun q => absurd q (by decide))⟩
theorem fd_X0_15 : FdOk RX0 15 1 1 0 .int 0 := ⟨RX0, TX0, 12, tyX0, cl_X0, by decide, tw217, rfl, rfl, (fun _ => rfl), (fun q => absurd q (by decide))⟩
theorem fd_X0_18 : FdOk RX0 18 1 2 0 .int 0 := ⟨RX0, TX0, 12, tyX0, cl_X0, by decide, tw220, rfl, rfl, (fun _ => rfl), (fun q => absurd q (by decide))⟩
theorem fd_X0_21 : FdOk RX0 21 1 3 2 (.array .int) 1 := ⟨RX0, TX0, 12, tyX0, cl_X0, by decide, tw223, rfl, rfl, (fun q => absurd q (by decide)), (fun _ => ⟨rfl, rfl⟩)⟩
theorem fd_X0_25 : FdOk RX0 25 1 4 2 (.array .int) 1 := ⟨RX0, TX0, 12, tyX0, cl_X0, by decide, tw224, rfl, rfl, (fun q => absurd q (by decide)), (fun _ => ⟨rfl, rfl⟩)⟩
theorem fd_X0_28 : FdOk RX0 28 1 5 2 (.array .int) 1 := ⟨RX0, TX0, 12, tyX0, cl_X0, by decide, tw226, rfl, rfl, (fun q => absurd q (by decide)), (fun _ => ⟨rfl, rfl⟩)⟩
theorem fd_X0_31 : FdOk RX0 31 1 6 2 (.array .int) 1 := ⟨RX0, TX0, 12, tyX0, cl_X0, by decide, tw227, rfl, rfl, (fun q => absurd q (by decide)), (fun _ => ⟨rfl, rfl⟩)⟩
theorem fd_X0_34 : FdOk RX0 34 1 7 2 (.array .int) 1 := ⟨RX0, TX0, 12, tyX0, cl_X0, by decide, tw228, rfl, rfl, (fun q => absurd q (by decide)), (fun _ => ⟨rfl, rfl⟩)⟩
theorem fd_X0_37 : FdOk RX0 37 1 8 2 (.array .int) 1 := ⟨RX0, TX0, 12, tyX0, cl_X0, by decide, tw230, rfl, rfl, (fun q => absurd q (by decide)), (fun _ => ⟨rfl, rfl⟩)⟩
theorem fd_X0_40 : FdOk RX0 40 1 9 2 (.array .int) 1 := ⟨RX0, TX0, 12, tyX0, cl_X0, by decide, tw231, rfl, rfl, (fun q => absurd q (by decide)), (fun _ => ⟨rfl, rfl⟩)⟩
theorem fd_X0_43 : FdOk RX0 43 1 10 2 (.array .int) 1 := ⟨RX0, TX0, 12, tyX0, cl_X0, by decide, tw232, rfl, rfl, (fun q => absurd q (by decide)), (fun _ => ⟨rfl, rfl⟩)⟩
theorem fd_X0_46 : FdOk RX0 46 1 11 2 (.array .long) 1 := ⟨RX0, TX0, 12, tyX0, cl_X0, by decide, tw233, rfl, rfl, (fun q => absurd q (by decide)), (fun _ => ⟨rfl, rfl⟩)⟩
theorem fd_X1_12 : FdOk RX1 12 2 0 2 (.object "VersionSearch$Archive") 1 := ⟨RX1, TX1, 3, tyX1, cl_X1, by decide, tw436, rfl, rfl, (fun q => absurd q (by decide)), (fun _ => ⟨rfl, rfl⟩)⟩
theorem fd_X1_18 : FdOk RX1 18 2 1 2 (.array .int) 1 := ⟨RX1, TX1, 3, tyX1, cl_X1, by decide, tw437, rfl, rfl, (fun q => absurd q (by decide)), (fun _ => ⟨rfl, rfl⟩)⟩
theorem fd_X1_22 : FdOk RX1 22 2 2 0 .int 0 := ⟨RX1, TX1, 3, tyX1, cl_X1, by decide, tw438, rfl, rfl, (fun _ => rfl), (fun q => absurd q (by decide))⟩
theorem fd_X1_30 : FdOk RX1 30 1 0 0 .int 0 := ⟨RX0, TX0, 12, tyX0, cl_X0, by decide, tw214, rfl, rfl, (fun _ => rfl), (fun q => absurd q (by decide))⟩
theorem fd_X1_72 : FdOk RX1 72 1 7 2 (.array .int) 2 := ⟨RX0, TX0, 12, tyX0, cl_X0, by decide, tw229, rfl, rfl, (fun q => absurd q (by decide)), (fun q => absurd q (by decide))⟩
theorem fd_X2_11 : FdOk RX2 11 3 0 2 (.array .int) 1 := ⟨RX2, TX2, 1, tyX2, cl_X2, by decide, tw414, rfl, rfl, (fun q => absurd q (by decide)), (fun _ => ⟨rfl, rfl⟩)⟩
theorem fd_X2_17 : FdOk RX2 17 1 0 0 .int 0 := ⟨RX0, TX0, 12, tyX0, cl_X0, by decide, tw212, rfl, rfl, (fun _ => rfl), (fun q => absurd q (by decide))⟩
theorem fd_X2_29 : FdOk RX2 29 1 1 0 .int 0 := ⟨RX0, TX0, 12, tyX0, cl_X0, by decide, tw218, rfl, rfl, (fun _ => rfl), (fun q => absurd q (by decide))⟩
theorem fd_X2_110 : FdOk RX2 110 1 4 2 (.array .int) 2 := ⟨RX0, TX0, 12, tyX0, cl_X0, by decide, tw225, rfl, rfl, (fun q => absurd q (by decide)), (fun q => absurd q (by decide))⟩
theorem fd_X3_9 : FdOk RX3 9 4 0 0 .int 0 := ⟨RX3, TX3, 2, tyX3, cl_X3, by decide, tw290, rfl, rfl, (fun _ => rfl), (fun q => absurd q (by decide))⟩
theorem fd_X3_15 : FdOk RX3 15 4 1 2 (.array .int) 1 := ⟨RX3, TX3, 2, tyX3, cl_X3, by decide, tw293, rfl, rfl, (fun q => absurd q (by decide)), (fun _ => ⟨rfl, rfl⟩)⟩
theorem fd_X3_25 : FdOk RX3 25 5 0 0 .int 0 := ⟨RX4, TX4, 9, tyX4, cl_X4, by decide, tw338, rfl, rfl, (fun _ => rfl), (fun q => absurd q (by decide))⟩
theorem fd_X3_55 : FdOk RX3 55 1 2 0 .int 0 := ⟨RX0, TX0, 12, tyX0, cl_X0, by decide, tw222, rfl, rfl, (fun _ => rfl), (fun q => absurd q (by decide))⟩
theorem fd_X4_11 : FdOk RX4 11 5 0 0 .int 0 := ⟨RX4, TX4, 9, tyX4, cl_X4, by decide, tw337, rfl, rfl, (fun _ => rfl), (fun q => absurd q (by decide))⟩
theorem fd_X4_17 : FdOk RX4 17 5 1 0 .int 0 := ⟨RX4, TX4, 9, tyX4, cl_X4, by decide, tw341, rfl, rfl, (fun _ => rfl), (fun q => absurd q (by decide))⟩
theorem fd_X4_20 : FdOk RX4 20 5 2 0 .int 0 := ⟨RX4, TX4, 9, tyX4, cl_X4, by decide, tw343, rfl, rfl, (fun _ => rfl), (fun q => absurd q (by decide))⟩
theorem fd_X4_23 : FdOk RX4 23 5 3 0 .int 0 := ⟨RX4, TX4, 9, tyX4, cl_X4, by decide, tw346, rfl, rfl, (fun _ => rfl), (fun q => absurd q (by decide))⟩
theorem fd_X4_26 : FdOk RX4 26 5 4 0 .int 0 := ⟨RX4, TX4, 9, tyX4, cl_X4, by decide, tw349, rfl, rfl, (fun _ => rfl), (fun q => absurd q (by decide))⟩
theorem fd_X4_29 : FdOk RX4 29 5 5 2 (.array .int) 1 := ⟨RX4, TX4, 9, tyX4, cl_X4, by decide, tw351, rfl, rfl, (fun q => absurd q (by decide)), (fun _ => ⟨rfl, rfl⟩)⟩
theorem fd_X4_33 : FdOk RX4 33 5 6 2 (.array .int) 1 := ⟨RX4, TX4, 9, tyX4, cl_X4, by decide, tw352, rfl, rfl, (fun q => absurd q (by decide)), (fun _ => ⟨rfl, rfl⟩)⟩
theorem fd_X4_36 : FdOk RX4 36 5 7 2 (.array .int) 1 := ⟨RX4, TX4, 9, tyX4, cl_X4, by decide, tw354, rfl, rfl, (fun q => absurd q (by decide)), (fun _ => ⟨rfl, rfl⟩)⟩
theorem fd_X4_39 : FdOk RX4 39 5 8 2 (.array .int) 1 := ⟨RX4, TX4, 9, tyX4, cl_X4, by decide, tw357, rfl, rfl, (fun q => absurd q (by decide)), (fun _ => ⟨rfl, rfl⟩)⟩
theorem fd_X4_47 : FdOk RX4 47 10 3 0 .int 0 := ⟨RX10, TX10, 5, tyX10, cl_X10, by decide, tw185, rfl, rfl, (fun _ => rfl), (fun q => absurd q (by decide))⟩
theorem fd_X4_50 : FdOk RX4 50 10 2 0 .int 0 := ⟨RX10, TX10, 5, tyX10, cl_X10, by decide, tw183, rfl, rfl, (fun _ => rfl), (fun q => absurd q (by decide))⟩
theorem fd_X6_9 : FdOk RX6 9 6 0 0 .int 0 := ⟨RX6, TX6, 5, tyX6, cl_X6, by decide, tw266, rfl, rfl, (fun _ => rfl), (fun q => absurd q (by decide))⟩
theorem fd_X6_15 : FdOk RX6 15 6 1 2 (.array .int) 1 := ⟨RX6, TX6, 5, tyX6, cl_X6, by decide, tw270, rfl, rfl, (fun q => absurd q (by decide)), (fun _ => ⟨rfl, rfl⟩)⟩
theorem fd_X6_19 : FdOk RX6 19 6 2 2 (.array .int) 1 := ⟨RX6, TX6, 5, tyX6, cl_X6, by decide, tw271, rfl, rfl, (fun q => absurd q (by decide)), (fun _ => ⟨rfl, rfl⟩)⟩
theorem fd_X6_22 : FdOk RX6 22 6 3 2 (.array .int) 1 := ⟨RX6, TX6, 5, tyX6, cl_X6, by decide, tw272, rfl, rfl, (fun q => absurd q (by decide)), (fun _ => ⟨rfl, rfl⟩)⟩
theorem fd_X6_25 : FdOk RX6 25 6 4 2 (.array .int) 1 := ⟨RX6, TX6, 5, tyX6, cl_X6, by decide, tw273, rfl, rfl, (fun q => absurd q (by decide)), (fun _ => ⟨rfl, rfl⟩)⟩
theorem fd_X6_34 : FdOk RX6 34 5 0 0 .int 0 := ⟨RX4, TX4, 9, tyX4, cl_X4, by decide, tw339, rfl, rfl, (fun _ => rfl), (fun q => absurd q (by decide))⟩
theorem fd_X6_43 : FdOk RX6 43 5 3 0 .int 0 := ⟨RX4, TX4, 9, tyX4, cl_X4, by decide, tw347, rfl, rfl, (fun _ => rfl), (fun q => absurd q (by decide))⟩
theorem fd_X6_52 : FdOk RX6 52 5 2 0 .int 0 := ⟨RX4, TX4, 9, tyX4, cl_X4, by decide, tw344, rfl, rfl, (fun _ => rfl), (fun q => absurd q (by decide))⟩
theorem fd_X6_59 : FdOk RX6 59 5 7 2 (.array .int) 2 := ⟨RX4, TX4, 9, tyX4, cl_X4, by decide, tw355, rfl, rfl, (fun q => absurd q (by decide)), (fun q => absurd q (by decide))⟩
theorem fd_X7_12 : FdOk RX7 12 7 0 2 (.object "VersionSearch$Line") 1 := ⟨RX7, TX7, 6, tyX7, cl_X7, by decide, tw384, rfl, rfl, (fun q => absurd q (by decide)), (fun _ => ⟨rfl, rfl⟩)⟩
theorem fd_X7_21 : FdOk RX7 21 7 1 2 (.object "VersionSearch$Archive") 1 := ⟨RX7, TX7, 6, tyX7, cl_X7, by decide, tw385, rfl, rfl, (fun q => absurd q (by decide)), (fun _ => ⟨rfl, rfl⟩)⟩
theorem fd_X7_28 : FdOk RX7 28 7 2 2 (.object "VersionSearch$Questions") 1 := ⟨RX7, TX7, 6, tyX7, cl_X7, by decide, tw387, rfl, rfl, (fun q => absurd q (by decide)), (fun _ => ⟨rfl, rfl⟩)⟩
theorem fd_X7_35 : FdOk RX7 35 7 3 2 (.object "VersionSearch$Hunt") 1 := ⟨RX7, TX7, 6, tyX7, cl_X7, by decide, tw389, rfl, rfl, (fun q => absurd q (by decide)), (fun _ => ⟨rfl, rfl⟩)⟩
theorem fd_X7_39 : FdOk RX7 39 7 4 0 .int 0 := ⟨RX7, TX7, 6, tyX7, cl_X7, by decide, tw391, rfl, rfl, (fun _ => rfl), (fun q => absurd q (by decide))⟩
theorem fd_X7_43 : FdOk RX7 43 7 5 0 .int 0 := ⟨RX7, TX7, 6, tyX7, cl_X7, by decide, tw393, rfl, rfl, (fun _ => rfl), (fun q => absurd q (by decide))⟩
theorem fd_X7_49 : FdOk RX7 49 6 0 0 .int 0 := ⟨RX6, TX6, 5, tyX6, cl_X6, by decide, tw267, rfl, rfl, (fun _ => rfl), (fun q => absurd q (by decide))⟩
theorem fd_X7_52 : FdOk RX7 52 4 0 0 .int 0 := ⟨RX3, TX3, 2, tyX3, cl_X3, by decide, tw291, rfl, rfl, (fun _ => rfl), (fun q => absurd q (by decide))⟩
theorem fd_X7_84 : FdOk RX7 84 10 3 0 .int 0 := ⟨RX10, TX10, 5, tyX10, cl_X10, by decide, tw186, rfl, rfl, (fun _ => rfl), (fun q => absurd q (by decide))⟩
theorem fd_X7_91 : FdOk RX7 91 5 2 0 .int 0 := ⟨RX4, TX4, 9, tyX4, cl_X4, by decide, tw345, rfl, rfl, (fun _ => rfl), (fun q => absurd q (by decide))⟩
theorem fd_X7_104 : FdOk RX7 104 5 6 2 (.array .int) 2 := ⟨RX4, TX4, 9, tyX4, cl_X4, by decide, tw353, rfl, rfl, (fun q => absurd q (by decide)), (fun q => absurd q (by decide))⟩
theorem fd_X7_114 : FdOk RX7 114 5 4 0 .int 0 := ⟨RX4, TX4, 9, tyX4, cl_X4, by decide, tw350, rfl, rfl, (fun _ => rfl), (fun q => absurd q (by decide))⟩
theorem fd_X7_117 : FdOk RX7 117 5 0 0 .int 0 := ⟨RX4, TX4, 9, tyX4, cl_X4, by decide, tw340, rfl, rfl, (fun _ => rfl), (fun q => absurd q (by decide))⟩
theorem fd_X7_126 : FdOk RX7 126 1 0 0 .int 0 := ⟨RX0, TX0, 12, tyX0, cl_X0, by decide, tw216, rfl, rfl, (fun _ => rfl), (fun q => absurd q (by decide))⟩
theorem fd_X7_129 : FdOk RX7 129 5 1 0 .int 0 := ⟨RX4, TX4, 9, tyX4, cl_X4, by decide, tw342, rfl, rfl, (fun _ => rfl), (fun q => absurd q (by decide))⟩
theorem fd_X7_158 : FdOk RX7 158 5 3 0 .int 0 := ⟨RX4, TX4, 9, tyX4, cl_X4, by decide, tw348, rfl, rfl, (fun _ => rfl), (fun q => absurd q (by decide))⟩
theorem fd_X7_161 : FdOk RX7 161 5 8 2 (.array .int) 2 := ⟨RX4, TX4, 9, tyX4, cl_X4, by decide, tw358, rfl, rfl, (fun q => absurd q (by decide)), (fun q => absurd q (by decide))⟩
theorem fd_X7_164 : FdOk RX7 164 5 7 2 (.array .int) 2 := ⟨RX4, TX4, 9, tyX4, cl_X4, by decide, tw356, rfl, rfl, (fun q => absurd q (by decide)), (fun q => absurd q (by decide))⟩
theorem fd_X8_13 : FdOk RX8 13 8 0 2 (.array .int) 1 := ⟨RX8, TX8, 1, tyX8, cl_X8, by decide, tw424, rfl, rfl, (fun q => absurd q (by decide)), (fun _ => ⟨rfl, rfl⟩)⟩
theorem fd_X8_19 : FdOk RX8 19 1 0 0 .int 0 := ⟨RX0, TX0, 12, tyX0, cl_X0, by decide, tw213, rfl, rfl, (fun _ => rfl), (fun q => absurd q (by decide))⟩
theorem fd_X8_124 : FdOk RX8 124 6 0 0 .int 0 := ⟨RX6, TX6, 5, tyX6, cl_X6, by decide, tw269, rfl, rfl, (fun _ => rfl), (fun q => absurd q (by decide))⟩
theorem fd_X9_12 : FdOk RX9 12 9 0 2 (.object "VersionSearch$Tape") 1 := ⟨RX9, TX9, 7, tyX9, cl_X9, by decide, tw299, rfl, rfl, (fun q => absurd q (by decide)), (fun _ => ⟨rfl, rfl⟩)⟩
theorem fd_X9_18 : FdOk RX9 18 9 1 0 .int 0 := ⟨RX9, TX9, 7, tyX9, cl_X9, by decide, tw301, rfl, rfl, (fun _ => rfl), (fun q => absurd q (by decide))⟩
theorem fd_X9_22 : FdOk RX9 22 9 2 0 .int 0 := ⟨RX9, TX9, 7, tyX9, cl_X9, by decide, tw303, rfl, rfl, (fun _ => rfl), (fun q => absurd q (by decide))⟩
theorem fd_X9_25 : FdOk RX9 25 9 3 2 (.array .int) 1 := ⟨RX9, TX9, 7, tyX9, cl_X9, by decide, tw305, rfl, rfl, (fun q => absurd q (by decide)), (fun _ => ⟨rfl, rfl⟩)⟩
theorem fd_X9_31 : FdOk RX9 31 9 4 2 (.array (.object "VersionSearch$Archive")) 1 := ⟨RX9, TX9, 7, tyX9, cl_X9, by decide, tw306, rfl, rfl, (fun q => absurd q (by decide)), (fun _ => ⟨rfl, rfl⟩)⟩
theorem fd_X9_37 : FdOk RX9 37 9 5 2 (.array (.object "VersionSearch$Questions")) 1 := ⟨RX9, TX9, 7, tyX9, cl_X9, by decide, tw307, rfl, rfl, (fun q => absurd q (by decide)), (fun _ => ⟨rfl, rfl⟩)⟩
theorem fd_X9_43 : FdOk RX9 43 9 6 2 (.array (.object "VersionSearch$Hunt")) 1 := ⟨RX9, TX9, 7, tyX9, cl_X9, by decide, tw308, rfl, rfl, (fun q => absurd q (by decide)), (fun _ => ⟨rfl, rfl⟩)⟩
theorem fd_X9_85 : FdOk RX9 85 7 1 2 (.object "VersionSearch$Archive") 2 := ⟨RX7, TX7, 6, tyX7, cl_X7, by decide, tw386, rfl, rfl, (fun q => absurd q (by decide)), (fun q => absurd q (by decide))⟩
theorem fd_X9_91 : FdOk RX9 91 7 2 2 (.object "VersionSearch$Questions") 2 := ⟨RX7, TX7, 6, tyX7, cl_X7, by decide, tw388, rfl, rfl, (fun q => absurd q (by decide)), (fun q => absurd q (by decide))⟩
theorem fd_X9_94 : FdOk RX9 94 7 3 2 (.object "VersionSearch$Hunt") 2 := ⟨RX7, TX7, 6, tyX7, cl_X7, by decide, tw390, rfl, rfl, (fun q => absurd q (by decide)), (fun q => absurd q (by decide))⟩
theorem fd_X10_9 : FdOk RX10 9 10 0 2 (.array .byte) 1 := ⟨RX10, TX10, 5, tyX10, cl_X10, by decide, tw179, rfl, rfl, (fun q => absurd q (by decide)), (fun _ => ⟨rfl, rfl⟩)⟩
theorem fd_X10_13 : FdOk RX10 13 10 1 0 .int 0 := ⟨RX10, TX10, 5, tyX10, cl_X10, by decide, tw180, rfl, rfl, (fun _ => rfl), (fun q => absurd q (by decide))⟩
theorem fd_X10_17 : FdOk RX10 17 10 2 0 .int 0 := ⟨RX10, TX10, 5, tyX10, cl_X10, by decide, tw182, rfl, rfl, (fun _ => rfl), (fun q => absurd q (by decide))⟩
theorem fd_X10_20 : FdOk RX10 20 10 3 0 .int 0 := ⟨RX10, TX10, 5, tyX10, cl_X10, by decide, tw184, rfl, rfl, (fun _ => rfl), (fun q => absurd q (by decide))⟩
theorem fd_X10_23 : FdOk RX10 23 10 4 0 .int 0 := ⟨RX10, TX10, 5, tyX10, cl_X10, by decide, tw187, rfl, rfl, (fun _ => rfl), (fun q => absurd q (by decide))⟩
theorem fd_X12_7 : FdOk RX12 7 12 1 2 (.array .byte) 1 := ⟨RX12, TX12, 37, tyX12, cl_X12, by decide, tw1374, rfl, rfl, (fun q => absurd q (by decide)), (fun _ => ⟨rfl, rfl⟩)⟩
theorem fd_X12_13 : FdOk RX12 13 12 2 2 (.array .int) 1 := ⟨RX12, TX12, 37, tyX12, cl_X12, by decide, tw1375, rfl, rfl, (fun q => absurd q (by decide)), (fun _ => ⟨rfl, rfl⟩)⟩
theorem fd_X12_17 : FdOk RX12 17 12 3 2 (.array .int) 1 := ⟨RX12, TX12, 37, tyX12, cl_X12, by decide, tw1376, rfl, rfl, (fun q => absurd q (by decide)), (fun _ => ⟨rfl, rfl⟩)⟩
theorem fd_X12_20 : FdOk RX12 20 12 4 2 (.array .int) 1 := ⟨RX12, TX12, 37, tyX12, cl_X12, by decide, tw1377, rfl, rfl, (fun q => absurd q (by decide)), (fun _ => ⟨rfl, rfl⟩)⟩
theorem fd_X12_23 : FdOk RX12 23 12 5 2 (.array .int) 1 := ⟨RX12, TX12, 37, tyX12, cl_X12, by decide, tw1378, rfl, rfl, (fun q => absurd q (by decide)), (fun _ => ⟨rfl, rfl⟩)⟩
theorem fd_X12_26 : FdOk RX12 26 12 6 2 (.array .int) 1 := ⟨RX12, TX12, 37, tyX12, cl_X12, by decide, tw1379, rfl, rfl, (fun q => absurd q (by decide)), (fun _ => ⟨rfl, rfl⟩)⟩
theorem fd_X12_29 : FdOk RX12 29 12 7 2 (.array .int) 1 := ⟨RX12, TX12, 37, tyX12, cl_X12, by decide, tw1380, rfl, rfl, (fun q => absurd q (by decide)), (fun _ => ⟨rfl, rfl⟩)⟩
theorem fd_X12_32 : FdOk RX12 32 12 8 2 (.array .int) 1 := ⟨RX12, TX12, 37, tyX12, cl_X12, by decide, tw1381, rfl, rfl, (fun q => absurd q (by decide)), (fun _ => ⟨rfl, rfl⟩)⟩
theorem fd_X12_35 : FdOk RX12 35 12 18 2 (.array .int) 1 := ⟨RX12, TX12, 37, tyX12, cl_X12, by decide, tw1391, rfl, rfl, (fun q => absurd q (by decide)), (fun _ => ⟨rfl, rfl⟩)⟩
theorem fd_X12_38 : FdOk RX12 38 12 19 2 (.array .int) 1 := ⟨RX12, TX12, 37, tyX12, cl_X12, by decide, tw1392, rfl, rfl, (fun q => absurd q (by decide)), (fun _ => ⟨rfl, rfl⟩)⟩
theorem fd_X12_41 : FdOk RX12 41 12 20 2 (.array .int) 1 := ⟨RX12, TX12, 37, tyX12, cl_X12, by decide, tw1393, rfl, rfl, (fun q => absurd q (by decide)), (fun _ => ⟨rfl, rfl⟩)⟩
theorem fd_X12_44 : FdOk RX12 44 12 26 2 (.array .int) 1 := ⟨RX12, TX12, 37, tyX12, cl_X12, by decide, tw1399, rfl, rfl, (fun q => absurd q (by decide)), (fun _ => ⟨rfl, rfl⟩)⟩
theorem fd_X12_47 : FdOk RX12 47 12 27 2 (.array .int) 1 := ⟨RX12, TX12, 37, tyX12, cl_X12, by decide, tw1400, rfl, rfl, (fun q => absurd q (by decide)), (fun _ => ⟨rfl, rfl⟩)⟩
theorem fd_X12_50 : FdOk RX12 50 12 29 2 (.array .int) 1 := ⟨RX12, TX12, 37, tyX12, cl_X12, by decide, tw1402, rfl, rfl, (fun q => absurd q (by decide)), (fun _ => ⟨rfl, rfl⟩)⟩
theorem fd_X12_53 : FdOk RX12 53 12 34 2 (.array .int) 1 := ⟨RX12, TX12, 37, tyX12, cl_X12, by decide, tw1407, rfl, rfl, (fun q => absurd q (by decide)), (fun _ => ⟨rfl, rfl⟩)⟩
theorem fd_X12_56 : FdOk RX12 56 12 36 2 (.array .boolean) 1 := ⟨RX12, TX12, 37, tyX12, cl_X12, by decide, tw1409, rfl, rfl, (fun q => absurd q (by decide)), (fun _ => ⟨rfl, rfl⟩)⟩
theorem fd_X12_60 : FdOk RX12 60 12 0 0 .int 0 := ⟨RX12, TX12, 37, tyX12, cl_X12, by decide, tw1373, rfl, rfl, (fun _ => rfl), (fun q => absurd q (by decide))⟩
theorem fd_X12_80 : FdOk RX12 80 12 9 0 .int 0 := ⟨RX12, TX12, 37, tyX12, cl_X12, by decide, tw1382, rfl, rfl, (fun _ => rfl), (fun q => absurd q (by decide))⟩
theorem fd_X12_83 : FdOk RX12 83 12 10 0 .int 0 := ⟨RX12, TX12, 37, tyX12, cl_X12, by decide, tw1383, rfl, rfl, (fun _ => rfl), (fun q => absurd q (by decide))⟩
theorem fd_X12_90 : FdOk RX12 90 12 11 0 .int 0 := ⟨RX12, TX12, 37, tyX12, cl_X12, by decide, tw1384, rfl, rfl, (fun _ => rfl), (fun q => absurd q (by decide))⟩
theorem fd_X12_93 : FdOk RX12 93 12 14 1 .long 0 := ⟨RX12, TX12, 37, tyX12, cl_X12, by decide, tw1387, rfl, rfl, (fun _ => rfl), (fun q => absurd q (by decide))⟩
theorem fd_X12_97 : FdOk RX12 97 12 12 0 .int 0 := ⟨RX12, TX12, 37, tyX12, cl_X12, by decide, tw1385, rfl, rfl, (fun _ => rfl), (fun q => absurd q (by decide))⟩
theorem fd_X12_100 : FdOk RX12 100 12 13 0 .int 0 := ⟨RX12, TX12, 37, tyX12, cl_X12, by decide, tw1386, rfl, rfl, (fun _ => rfl), (fun q => absurd q (by decide))⟩
theorem fd_X12_103 : FdOk RX12 103 12 15 0 .int 0 := ⟨RX12, TX12, 37, tyX12, cl_X12, by decide, tw1388, rfl, rfl, (fun _ => rfl), (fun q => absurd q (by decide))⟩
theorem fd_X12_106 : FdOk RX12 106 12 16 0 .int 0 := ⟨RX12, TX12, 37, tyX12, cl_X12, by decide, tw1389, rfl, rfl, (fun _ => rfl), (fun q => absurd q (by decide))⟩
theorem fd_X12_109 : FdOk RX12 109 12 17 0 .int 0 := ⟨RX12, TX12, 37, tyX12, cl_X12, by decide, tw1390, rfl, rfl, (fun _ => rfl), (fun q => absurd q (by decide))⟩
theorem fd_X12_120 : FdOk RX12 120 12 22 0 .boolean 0 := ⟨RX12, TX12, 37, tyX12, cl_X12, by decide, tw1395, rfl, rfl, (fun _ => rfl), (fun q => absurd q (by decide))⟩
theorem fd_X12_129 : FdOk RX12 129 12 21 0 .int 0 := ⟨RX12, TX12, 37, tyX12, cl_X12, by decide, tw1394, rfl, rfl, (fun _ => rfl), (fun q => absurd q (by decide))⟩
theorem fd_X12_143 : FdOk RX12 143 12 23 0 .int 0 := ⟨RX12, TX12, 37, tyX12, cl_X12, by decide, tw1396, rfl, rfl, (fun _ => rfl), (fun q => absurd q (by decide))⟩
theorem fd_X12_253 : FdOk RX12 253 12 24 0 .int 0 := ⟨RX12, TX12, 37, tyX12, cl_X12, by decide, tw1397, rfl, rfl, (fun _ => rfl), (fun q => absurd q (by decide))⟩
theorem fd_X12_337 : FdOk RX12 337 12 25 0 .int 0 := ⟨RX12, TX12, 37, tyX12, cl_X12, by decide, tw1398, rfl, rfl, (fun _ => rfl), (fun q => absurd q (by decide))⟩
theorem fd_X12_368 : FdOk RX12 368 12 28 0 .int 0 := ⟨RX12, TX12, 37, tyX12, cl_X12, by decide, tw1401, rfl, rfl, (fun _ => rfl), (fun q => absurd q (by decide))⟩
theorem fd_X12_428 : FdOk RX12 428 12 30 0 .int 0 := ⟨RX12, TX12, 37, tyX12, cl_X12, by decide, tw1403, rfl, rfl, (fun _ => rfl), (fun q => absurd q (by decide))⟩
theorem fd_X12_440 : FdOk RX12 440 12 31 0 .int 0 := ⟨RX12, TX12, 37, tyX12, cl_X12, by decide, tw1404, rfl, rfl, (fun _ => rfl), (fun q => absurd q (by decide))⟩
theorem fd_X12_443 : FdOk RX12 443 12 32 0 .int 0 := ⟨RX12, TX12, 37, tyX12, cl_X12, by decide, tw1405, rfl, rfl, (fun _ => rfl), (fun q => absurd q (by decide))⟩
theorem fd_X12_446 : FdOk RX12 446 12 33 0 .int 0 := ⟨RX12, TX12, 37, tyX12, cl_X12, by decide, tw1406, rfl, rfl, (fun _ => rfl), (fun q => absurd q (by decide))⟩
theorem fd_X12_464 : FdOk RX12 464 12 35 0 .int 0 := ⟨RX12, TX12, 37, tyX12, cl_X12, by decide, tw1408, rfl, rfl, (fun _ => rfl), (fun q => absurd q (by decide))⟩
def M_J0_coder_7d493 : MT := (yJ0_coder_7d493, cJ0_coder_7d493, 1, (some .byte), 0, 0)
def M_J0_isLatin1_aae02 : MT := (yJ0_isLatin1_aae02, cJ0_isLatin1_aae02, 1, (some .boolean), 0, 0)
def M_J3_checkIndex_8e157 : MT := (yJ3_checkIndex_8e157, cJ3_checkIndex_8e157, 3, (some .int), 0, 0)
def M_J0_checkIndex_df160 : MT := (yJ0_checkIndex_df160, cJ0_checkIndex_df160, 2, none, 1, 22)
def M_J1_charAt_3b067 : MT := (yJ1_charAt_3b067, cJ1_charAt_3b067, 2, (some .char), 2, 43)
def M_J0_length_8abf5 : MT := (yJ0_length_8abf5, cJ0_length_8abf5, 1, (some .int), 1, 20)
def M_J0_charAt_5068e : MT := (yJ0_charAt_5068e, cJ0_charAt_5068e, 2, (some .char), 3, 64)
def M_X10_init : MT := (yX10_init, cX10_init, 1, none, 1, 20)
def M_X0_init : MT := (yX0_init, cX0_init, 1, none, 1, 20)
def M_X6_init : MT := (yX6_init, cX6_init, 1, none, 1, 20)
def M_X3_init : MT := (yX3_init, cX3_init, 1, none, 1, 20)
def M_X9_init : MT := (yX9_init, cX9_init, 2, none, 2, 40)
def M_X4_init : MT := (yX4_init, cX4_init, 1, none, 1, 20)
def M_X7_init : MT := (yX7_init, cX7_init, 1, none, 2, 40)
def M_X2_init : MT := (yX2_init, cX2_init, 1, none, 1, 20)
def M_X8_init : MT := (yX8_init, cX8_init, 1, none, 1, 20)
def M_X1_init : MT := (yX1_init, cX1_init, 1, none, 2, 40)
def M_X11_init : MT := (yX11_init, cX11_init, 1, none, 3, 61)
def M_X12_init : MT := (yX12_init, cX12_init, 1, none, 1, 20)
def M_X10_hasRoom : MT := (yX10_hasRoom, cX10_hasRoom, 1, (some .boolean), 0, 0)
def M_X10_add : MT := (yX10_add, cX10_add, 3, none, 0, 0)
def M_X11_feed : MT := (yX11_feed, cX11_feed, 7, (some .int), 1, 22)
def M_X12_four : MT := (yX12_four, cX12_four, 3, none, 0, 0)
def M_X12_feed : MT := (yX12_feed, cX12_feed, 6, (some .int), 1, 22)
def M_X11_end : MT := (yX11_end, cX11_end, 2, (some .int), 0, 0)
def M_X12_in : MT := (yX12_in, cX12_in, 3, (some .boolean), 0, 0)
def M_X12_end : MT := (yX12_end, cX12_end, 2, (some .int), 1, 22)
def M_X9_isSort : MT := (yX9_isSort, cX9_isSort, 2, (some .boolean), 0, 0)
def M_X5_at : MT := (yX5_at, cX5_at, 2, (some .int), 0, 0)
def M_X9_howMany : MT := (yX9_howMany, cX9_howMany, 2, (some .int), 1, 21)
def M_X9_isTold : MT := (yX9_isTold, cX9_isTold, 3, (some .boolean), 2, 42)
def M_X9_placeFor : MT := (yX9_placeFor, cX9_placeFor, 3, (some .int), 3, 64)
def M_X5_set : MT := (yX5_set, cX5_set, 3, none, 0, 0)
def M_X0_clear : MT := (yX0_clear, cX0_clear, 2, none, 1, 22)
def M_X10_rewind : MT := (yX10_rewind, cX10_rewind, 1, none, 0, 0)
def M_X10_byteAt : MT := (yX10_byteAt, cX10_byteAt, 2, (some .int), 0, 0)
def M_X10_isBlank : MT := (yX10_isBlank, cX10_isBlank, 1, (some .boolean), 0, 0)
def M_X10_isLetter : MT := (yX10_isLetter, cX10_isLetter, 1, (some .boolean), 0, 0)
def M_X10_isDigit : MT := (yX10_isDigit, cX10_isDigit, 1, (some .boolean), 0, 0)
def M_X10_next : MT := (yX10_next, cX10_next, 1, none, 1, 21)
def M_X4_sortOf : MT := (yX4_sortOf, cX4_sortOf, 1, (some .int), 0, 0)
def M_X4_keywordOf : MT := (yX4_keywordOf, cX4_keywordOf, 1, (some (.object "java/lang/String")), 0, 0)
def M_X10_tokenIs : MT := (yX10_tokenIs, cX10_tokenIs, 3, (some .boolean), 4, 85)
def M_X4_kindOf : MT := (yX4_kindOf, cX4_kindOf, 3, (some .int), 5, 107)
def M_X4_shapeOf : MT := (yX4_shapeOf, cX4_shapeOf, 1, (some (.object "java/lang/String")), 0, 0)
def M_X10_number : MT := (yX10_number, cX10_number, 3, (some .int), 1, 21)
def M_X4_takesNumber : MT := (yX4_takesNumber, cX4_takesNumber, 2, (some .boolean), 2, 43)
def M_X10_isWord : MT := (yX10_isWord, cX10_isWord, 1, (some .boolean), 0, 0)
def M_X10_spelling : MT := (yX10_spelling, cX10_spelling, 3, (some .int), 1, 21)
def M_X4_takesWord : MT := (yX4_takesWord, cX4_takesWord, 2, (some .boolean), 2, 43)
def M_X4_read : MT := (yX4_read, cX4_read, 6, (some .int), 6, 129)
def M_X7_note : MT := (yX7_note, cX7_note, 3, none, 0, 0)
def M_X7_noteNoText : MT := (yX7_noteNoText, cX7_noteNoText, 5, none, 7, 154)
def M_X4_value : MT := (yX4_value, cX4_value, 2, (some .int), 1, 21)
def M_X7_least : MT := (yX7_least, cX7_least, 3, (some .int), 0, 0)
def M_J9_min_7cf53 : MT := (yJ9_min_7cf53, cJ9_min_7cf53, 2, (some .int), 0, 0)
def M_X7_most : MT := (yX7_most, cX7_most, 2, (some .int), 1, 21)
def M_X7_noteWhatCanNotBe : MT := (yX7_noteWhatCanNotBe, cX7_noteWhatCanNotBe, 2, none, 2, 42)
def M_X7_noteTooManyWords : MT := (yX7_noteTooManyWords, cX7_noteTooManyWords, 2, none, 1, 22)
def M_X0_versionsOf : MT := (yX0_versionsOf, cX0_versionsOf, 2, (some .int), 1, 21)
def M_X0_hasDocument : MT := (yX0_hasDocument, cX0_hasDocument, 2, (some .boolean), 0, 0)
def M_X0_slotOf : MT := (yX0_slotOf, cX0_slotOf, 2, (some .int), 0, 0)
def M_X0_lengthOf : MT := (yX0_lengthOf, cX0_lengthOf, 3, (some .int), 1, 21)
def M_X0_latestLength : MT := (yX0_latestLength, cX0_latestLength, 2, (some .int), 2, 43)
def M_X0_hasVersion : MT := (yX0_hasVersion, cX0_hasVersion, 3, (some .boolean), 2, 42)
def M_X7_isThere : MT := (yX7_isThere, cX7_isThere, 3, (some .boolean), 3, 64)
def M_X7_noteFirstToken : MT := (yX7_noteFirstToken, cX7_noteFirstToken, 2, none, 4, 86)
def M_X0_tokenAt : MT := (yX0_tokenAt, cX0_tokenAt, 4, (some .int), 1, 21)
def M_X0_open : MT := (yX0_open, cX0_open, 6, (some .int), 2, 44)
def M_X0_newToken : MT := (yX0_newToken, cX0_newToken, 4, (some .int), 1, 22)
def M_X0_insert : MT := (yX0_insert, cX0_insert, 6, none, 1, 22)
def M_X0_close : MT := (yX0_close, cX0_close, 7, none, 2, 42)
def M_X0_addDocument : MT := (yX0_addDocument, cX0_addDocument, 7, none, 3, 69)
def M_X0_putWords : MT := (yX0_putWords, cX0_putWords, 8, none, 3, 69)
def M_X0_remove : MT := (yX0_remove, cX0_remove, 6, (some .int), 1, 22)
def M_X0_cutWords : MT := (yX0_cutWords, cX0_cutWords, 7, none, 3, 69)
def M_X0_moveWord : MT := (yX0_moveWord, cX0_moveWord, 6, none, 3, 69)
def M_X0_goBack : MT := (yX0_goBack, cX0_goBack, 5, none, 3, 69)
def M_X7_makeVersion : MT := (yX7_makeVersion, cX7_makeVersion, 3, none, 4, 96)
def M_X7_takeVersion : MT := (yX7_takeVersion, cX7_takeVersion, 2, none, 5, 118)
def M_X6_wordsOf : MT := (yX6_wordsOf, cX6_wordsOf, 2, (some .int), 1, 21)
def M_X6_add : MT := (yX6_add, cX6_add, 4, none, 2, 42)
def M_X7_takeQuestion : MT := (yX7_takeQuestion, cX7_takeQuestion, 1, none, 3, 65)
def M_X3_add : MT := (yX3_add, cX3_add, 2, none, 2, 42)
def M_X7_takeFact : MT := (yX7_takeFact, cX7_takeFact, 1, none, 3, 63)
def M_X0_wordAt : MT := (yX0_wordAt, cX0_wordAt, 2, (some .int), 1, 21)
def M_X0_placeOfWord : MT := (yX0_placeOfWord, cX0_placeOfWord, 3, (some .int), 2, 42)
def M_X0_openWord : MT := (yX0_openWord, cX0_openWord, 4, none, 0, 0)
def M_X0_stayOf : MT := (yX0_stayOf, cX0_stayOf, 2, (some .int), 1, 21)
def M_X0_ownerOf : MT := (yX0_ownerOf, cX0_ownerOf, 2, (some .int), 1, 21)
def M_X0_listWords : MT := (yX0_listWords, cX0_listWords, 4, none, 3, 64)
def M_X7_take : MT := (yX7_take, cX7_take, 4, none, 8, 178)
def M_X5_copy : MT := (yX5_copy, cX5_copy, 2, none, 1, 26)
def M_X0_copyFrom : MT := (yX0_copyFrom, cX0_copyFrom, 2, none, 2, 47)
def M_X6_copyFrom : MT := (yX6_copyFrom, cX6_copyFrom, 2, none, 2, 47)
def M_X3_copyFrom : MT := (yX3_copyFrom, cX3_copyFrom, 2, none, 2, 47)
def M_J9_max_7cf53 : MT := (yJ9_max_7cf53, cJ9_max_7cf53, 2, (some .int), 0, 0)
def M_X9_keep : MT := (yX9_keep, cX9_keep, 4, none, 3, 68)
def M_X11_text : MT := (yX11_text, cX11_text, 4, (some .int), 9, 201)
def M_X12_is : MT := (yX12_is, cX12_is, 3, (some .boolean), 1, 22)
def M_X12_see : MT := (yX12_see, cX12_see, 1, (some .int), 0, 0)
def M_X12_token : MT := (yX12_token, cX12_token, 3, none, 1, 22)
def M_X12_changeBy : MT := (yX12_changeBy, cX12_changeBy, 3, (some .int), 0, 0)
def M_X12_addsFault : MT := (yX12_addsFault, cX12_addsFault, 3, none, 0, 0)
def M_X12_fails : MT := (yX12_fails, cX12_fails, 1, (some .boolean), 0, 0)
def M_X12_numberOf : MT := (yX12_numberOf, cX12_numberOf, 5, (some .int), 0, 0)
def M_X12_takeWord : MT := (yX12_takeWord, cX12_takeWord, 1, (some .boolean), 2, 44)
def M_X12_takeWords : MT := (yX12_takeWords, cX12_takeWords, 2, none, 3, 64)
def M_X12_at : MT := (yX12_at, cX12_at, 2, (some .int), 0, 0)
def M_X12_latest : MT := (yX12_latest, cX12_latest, 2, (some .int), 1, 21)
def M_X12_beginVersion : MT := (yX12_beginVersion, cX12_beginVersion, 2, none, 2, 42)
def M_X12_lesser : MT := (yX12_lesser, cX12_lesser, 2, (some .int), 0, 0)
def M_X12_newToken : MT := (yX12_newToken, cX12_newToken, 4, (some .int), 1, 21)
def M_X12_addWord : MT := (yX12_addWord, cX12_addWord, 5, none, 2, 42)
def M_X12_docLine : MT := (yX12_docLine, cX12_docLine, 4, (some .boolean), 4, 85)
def M_X12_take : MT := (yX12_take, cX12_take, 4, (some .boolean), 2, 44)
def M_X12_readPut : MT := (yX12_readPut, cX12_readPut, 2, (some .boolean), 4, 85)
def M_X12_readChange : MT := (yX12_readChange, cX12_readChange, 2, (some .boolean), 5, 106)
def M_X12_isThere : MT := (yX12_isThere, cX12_isThere, 3, (some .boolean), 2, 42)
def M_X12_moves : MT := (yX12_moves, cX12_moves, 6, none, 3, 66)
def M_X12_makeVersion : MT := (yX12_makeVersion, cX12_makeVersion, 7, none, 4, 91)
def M_X12_changeLine : MT := (yX12_changeLine, cX12_changeLine, 4, (some .boolean), 6, 127)
def M_X12_archiveLine : MT := (yX12_archiveLine, cX12_archiveLine, 5, (some .boolean), 7, 150)
def M_X12_askingBy : MT := (yX12_askingBy, cX12_askingBy, 3, (some .int), 0, 0)
def M_X12_readAsking : MT := (yX12_readAsking, cX12_readAsking, 3, (some .boolean), 4, 85)
def M_X12_askingLine : MT := (yX12_askingLine, cX12_askingLine, 7, (some .boolean), 5, 107)
def M_X12_huntLine : MT := (yX12_huntLine, cX12_huntLine, 6, (some .boolean), 3, 67)
def M_X12_allLines : MT := (yX12_allLines, cX12_allLines, 6, (some .boolean), 8, 174)
def M_X12_readText : MT := (yX12_readText, cX12_readText, 3, (some .boolean), 9, 199)
def M_X12_store : MT := (yX12_store, cX12_store, 5, none, 0, 0)
def M_X12_text : MT := (yX12_text, cX12_text, 4, (some .int), 10, 221)
def M_X11_fault : MT := (yX11_fault, cX11_fault, 2, (some .int), 0, 0)
def M_X12_fault : MT := (yX12_fault, cX12_fault, 2, (some .int), 0, 0)
def M_X9_archiveAt : MT := (yX9_archiveAt, cX9_archiveAt, 2, (some (.object "VersionSearch$Archive")), 3, 64)
def M_X0_versionsOfAll : MT := (yX0_versionsOfAll, cX0_versionsOfAll, 3, (some .int), 2, 42)
def M_X2_size : MT := (yX2_size, cX2_size, 5, (some .int), 2, 43)
def M_J6_bitCount_0f7a4 : MT := (yJ6_bitCount_0f7a4, cJ6_bitCount_0f7a4, 1, (some .int), 0, 0)
def M_X5_runs : MT := (yX5_runs, cX5_runs, 1, (some .int), 1, 20)
def M_X2_postings : MT := (yX2_postings, cX2_postings, 4, (some .int), 2, 42)
def M_X2_longestDocument : MT := (yX2_longestDocument, cX2_longestDocument, 4, (some .int), 3, 64)
def M_X0_spellingAt : MT := (yX0_spellingAt, cX0_spellingAt, 4, (some .int), 1, 21)
def M_X2_sameWords : MT := (yX2_sameWords, cX2_sameWords, 8, (some .boolean), 2, 44)
def M_X2_twinsAhead : MT := (yX2_twinsAhead, cX2_twinsAhead, 8, (some .int), 3, 71)
def M_X2_twins : MT := (yX2_twins, cX2_twins, 5, (some .int), 4, 98)
def M_X5_firstBit : MT := (yX5_firstBit, cX5_firstBit, 1, (some .int), 1, 20)
def M_X5_bit : MT := (yX5_bit, cX5_bit, 2, (some .int), 0, 0)
def M_X2_placeOf : MT := (yX2_placeOf, cX2_placeOf, 6, (some .int), 2, 44)
def M_X2_stayTogether : MT := (yX2_stayTogether, cX2_stayTogether, 7, (some .boolean), 3, 69)
def M_X2_passages : MT := (yX2_passages, cX2_passages, 11, (some .int), 4, 95)
def M_X0_everyVersion : MT := (yX0_everyVersion, cX0_everyVersion, 2, (some .int), 2, 42)
def M_X2_kept : MT := (yX2_kept, cX2_kept, 6, (some .int), 3, 63)
def M_X2_wasBefore : MT := (yX2_wasBefore, cX2_wasBefore, 5, (some .boolean), 3, 71)
def M_X2_returns : MT := (yX2_returns, cX2_returns, 6, (some .int), 4, 95)
def M_X11_ofDocument : MT := (yX11_ofDocument, cX11_ofDocument, 4, (some .int), 5, 125)
def M_X11_archive : MT := (yX11_archive, cX11_archive, 4, (some .int), 6, 148)
def M_X12_hand : MT := (yX12_hand, cX12_hand, 3, (some .boolean), 2, 44)
def M_X12_isDoc : MT := (yX12_isDoc, cX12_isDoc, 2, (some .boolean), 1, 22)
def M_X12_versions : MT := (yX12_versions, cX12_versions, 2, (some .int), 0, 0)
def M_X12_longOf : MT := (yX12_longOf, cX12_longOf, 3, (some .int), 1, 21)
def M_X12_tokenAt : MT := (yX12_tokenAt, cX12_tokenAt, 4, (some .int), 1, 21)
def M_X12_placeOf : MT := (yX12_placeOf, cX12_placeOf, 6, (some .int), 2, 44)
def M_X12_whereIs : MT := (yX12_whereIs, cX12_whereIs, 5, (some .int), 3, 69)
def M_X12_has : MT := (yX12_has, cX12_has, 2, (some .boolean), 0, 0)
def M_X12_behindOf : MT := (yX12_behindOf, cX12_behindOf, 8, (some .int), 4, 93)
def M_X12_hasAhead : MT := (yX12_hasAhead, cX12_hasAhead, 5, (some .boolean), 5, 120)
def M_X12_greater : MT := (yX12_greater, cX12_greater, 2, (some .int), 0, 0)
def M_X12_passages : MT := (yX12_passages, cX12_passages, 9, (some .int), 6, 144)
def M_X12_ones : MT := (yX12_ones, cX12_ones, 3, (some .int), 1, 21)
def M_X12_keptIn : MT := (yX12_keptIn, cX12_keptIn, 4, (some .int), 4, 93)
def M_X12_wordOf : MT := (yX12_wordOf, cX12_wordOf, 2, (some .int), 0, 0)
def M_X12_wordAt : MT := (yX12_wordAt, cX12_wordAt, 4, (some .int), 2, 44)
def M_X12_areAlike : MT := (yX12_areAlike, cX12_areAlike, 7, (some .boolean), 3, 67)
def M_X12_returns : MT := (yX12_returns, cX12_returns, 6, (some .int), 4, 93)
def M_X12_ofDoc : MT := (yX12_ofDoc, cX12_ofDoc, 3, (some .int), 7, 172)
def M_X12_versionsAll : MT := (yX12_versionsAll, cX12_versionsAll, 3, (some .int), 1, 21)
def M_X12_sizeAll : MT := (yX12_sizeAll, cX12_sizeAll, 4, (some .int), 2, 43)
def M_X12_rowsIn : MT := (yX12_rowsIn, cX12_rowsIn, 3, (some .int), 1, 21)
def M_X12_postings : MT := (yX12_postings, cX12_postings, 3, (some .int), 4, 93)
def M_X12_longest : MT := (yX12_longest, cX12_longest, 3, (some .int), 2, 43)
def M_X12_isVersion : MT := (yX12_isVersion, cX12_isVersion, 3, (some .boolean), 2, 43)
def M_X12_twins : MT := (yX12_twins, cX12_twins, 5, (some .int), 4, 93)
def M_X12_widened : MT := (yX12_widened, cX12_widened, 2, (some .int), 0, 0)
def M_X12_layWords : MT := (yX12_layWords, cX12_layWords, 6, none, 1, 21)
def M_X12_archive : MT := (yX12_archive, cX12_archive, 3, (some .int), 8, 194)
def M_X0_dateOf : MT := (yX0_dateOf, cX0_dateOf, 3, (some .int), 1, 21)
def M_X2_fresh : MT := (yX2_fresh, cX2_fresh, 7, (some .int), 2, 44)
def M_X2_inBoth : MT := (yX2_inBoth, cX2_inBoth, 7, (some .int), 2, 44)
def M_X2_lost : MT := (yX2_lost, cX2_lost, 4, (some .int), 3, 70)
def M_X2_turned : MT := (yX2_turned, cX2_turned, 9, (some .int), 3, 69)
def M_X2_oldest : MT := (yX2_oldest, cX2_oldest, 9, (some .int), 2, 44)
def M_X0_hasPlace : MT := (yX0_hasPlace, cX0_hasPlace, 4, (some .boolean), 3, 64)
def M_X5_wordNumber : MT := (yX5_wordNumber, cX5_wordNumber, 3, (some .int), 0, 0)
def M_X0_wordNumberAt : MT := (yX0_wordNumberAt, cX0_wordNumberAt, 4, (some .int), 4, 87)
def M_X11_version : MT := (yX11_version, cX11_version, 6, (some .int), 5, 110)
def M_X12_fresh : MT := (yX12_fresh, cX12_fresh, 5, (some .int), 4, 93)
def M_X12_lost : MT := (yX12_lost, cX12_lost, 5, (some .int), 3, 69)
def M_X12_turned : MT := (yX12_turned, cX12_turned, 8, (some .int), 3, 69)
def M_X12_oldest : MT := (yX12_oldest, cX12_oldest, 7, (some .int), 4, 93)
def M_X12_version : MT := (yX12_version, cX12_version, 5, (some .int), 5, 119)
def M_X5_lastBit : MT := (yX5_lastBit, cX5_lastBit, 3, (some .int), 1, 21)
def M_X11_life : MT := (yX11_life, cX11_life, 8, (some .int), 4, 87)
def M_X12_firstIn : MT := (yX12_firstIn, cX12_firstIn, 2, (some .int), 1, 21)
def M_X12_lastIn : MT := (yX12_lastIn, cX12_lastIn, 3, (some .int), 1, 21)
def M_X12_life : MT := (yX12_life, cX12_life, 7, (some .int), 4, 93)
def M_X0_hasWord : MT := (yX0_hasWord, cX0_hasWord, 2, (some .boolean), 0, 0)
def M_X0_slotsOfWord : MT := (yX0_slotsOfWord, cX0_slotsOfWord, 2, (some .long), 0, 0)
def M_J13_bitCount_95d88 : MT := (yJ13_bitCount_95d88, cJ13_bitCount_95d88, 2, (some .int), 0, 0)
def M_X2_documentsOfWord : MT := (yX2_documentsOfWord, cX2_documentsOfWord, 5, (some .int), 1, 21)
def M_X2_firstDateOfWord : MT := (yX2_firstDateOfWord, cX2_firstDateOfWord, 6, (some .int), 1, 21)
def M_X2_timesIn : MT := (yX2_timesIn, cX2_timesIn, 6, (some .int), 2, 44)
def M_X2_spread : MT := (yX2_spread, cX2_spread, 6, (some .int), 3, 69)
def M_X11_word : MT := (yX11_word, cX11_word, 5, (some .int), 4, 94)
def M_X12_timesIn : MT := (yX12_timesIn, cX12_timesIn, 6, (some .int), 3, 67)
def M_X12_ofWord : MT := (yX12_ofWord, cX12_ofWord, 11, (some .int), 4, 92)
def M_X12_word : MT := (yX12_word, cX12_word, 4, (some .int), 5, 122)
def M_X2_documentOfDate : MT := (yX2_documentOfDate, cX2_documentOfDate, 5, (some .int), 2, 43)
def M_X11_dated : MT := (yX11_dated, cX11_dated, 4, (some .int), 4, 85)
def M_X12_dated : MT := (yX12_dated, cX12_dated, 4, (some .int), 3, 66)
def M_X11_shared : MT := (yX11_shared, cX11_shared, 6, (some .int), 4, 85)
def M_X12_shared : MT := (yX12_shared, cX12_shared, 7, (some .int), 3, 69)
def M_X2_longestRow : MT := (yX2_longestRow, cX2_longestRow, 13, (some .int), 2, 44)
def M_X11_common : MT := (yX11_common, cX11_common, 7, (some .int), 4, 85)
def M_X12_common : MT := (yX12_common, cX12_common, 12, (some .int), 3, 67)
def M_X9_questionsAt : MT := (yX9_questionsAt, cX9_questionsAt, 2, (some (.object "VersionSearch$Questions")), 3, 64)
def M_X6_has : MT := (yX6_has, cX6_has, 2, (some .boolean), 0, 0)
def M_X6_kindOf : MT := (yX6_kindOf, cX6_kindOf, 2, (some .int), 1, 21)
def M_X6_numberOf : MT := (yX6_numberOf, cX6_numberOf, 3, (some .int), 1, 21)
def M_X6_wordOf : MT := (yX6_wordOf, cX6_wordOf, 3, (some .int), 1, 21)
def M_X11_question : MT := (yX11_question, cX11_question, 5, (some .int), 4, 85)
def M_X12_hasAsking : MT := (yX12_hasAsking, cX12_hasAsking, 2, (some .boolean), 2, 44)
def M_X12_askedMany : MT := (yX12_askedMany, cX12_askedMany, 1, (some .int), 0, 0)
def M_X12_ofAsking : MT := (yX12_ofAsking, cX12_ofAsking, 3, (some .int), 0, 0)
def M_X12_wordsOf : MT := (yX12_wordsOf, cX12_wordsOf, 3, (some .int), 1, 22)
def M_X12_question : MT := (yX12_question, cX12_question, 4, (some .int), 3, 65)
def M_X8_held : MT := (yX8_held, cX8_held, 3, (some .int), 1, 21)
def M_X8_beginnings : MT := (yX8_beginnings, cX8_beginnings, 10, (some .int), 2, 44)
def M_J9_abs_0f7a4 : MT := (yJ9_abs_0f7a4, cJ9_abs_0f7a4, 1, (some .int), 0, 0)
def M_X8_areNear : MT := (yX8_areNear, cX8_areNear, 9, (some .boolean), 2, 44)
def M_X8_areMany : MT := (yX8_areMany, cX8_areMany, 6, (some .boolean), 3, 69)
def M_X8_lookAtWords : MT := (yX8_lookAtWords, cX8_lookAtWords, 9, (some .int), 4, 94)
def M_X8_lookIn : MT := (yX8_lookIn, cX8_lookIn, 7, (some .int), 5, 122)
def M_X8_look : MT := (yX8_look, cX8_look, 6, none, 6, 148)
def M_X11_holds : MT := (yX11_holds, cX11_holds, 8, (some .int), 7, 173)
def M_X12_beginsAt : MT := (yX12_beginsAt, cX12_beginsAt, 8, (some .boolean), 3, 67)
def M_X12_timesOf : MT := (yX12_timesOf, cX12_timesOf, 6, (some .int), 4, 94)
def M_X12_areNear : MT := (yX12_areNear, cX12_areNear, 8, (some .boolean), 3, 67)
def M_X12_holdsBy : MT := (yX12_holdsBy, cX12_holdsBy, 6, (some .boolean), 5, 119)
def M_X12_layHeld : MT := (yX12_layHeld, cX12_layHeld, 6, (some .boolean), 6, 144)
def M_X12_isAsking : MT := (yX12_isAsking, cX12_isAsking, 2, (some .boolean), 1, 22)
def M_X12_holds : MT := (yX12_holds, cX12_holds, 6, (some .int), 7, 169)
def M_X5_runAt : MT := (yX5_runAt, cX5_runAt, 5, (some .int), 1, 21)
def M_X11_spans : MT := (yX11_spans, cX11_spans, 11, (some .int), 7, 173)
def M_X12_spans : MT := (yX12_spans, cX12_spans, 11, (some .int), 7, 169)
def M_X11_times : MT := (yX11_times, cX11_times, 8, (some .int), 4, 85)
def M_X12_times : MT := (yX12_times, cX12_times, 6, (some .int), 5, 119)
def M_X8_everIn : MT := (yX8_everIn, cX8_everIn, 5, (some .int), 2, 43)
def M_X8_alwaysIn : MT := (yX8_alwaysIn, cX8_alwaysIn, 5, (some .int), 3, 63)
def M_X8_asOf : MT := (yX8_asOf, cX8_asOf, 8, (some .int), 2, 43)
def M_X8_isChange : MT := (yX8_isChange, cX8_isChange, 4, (some .boolean), 3, 70)
def M_X8_changes : MT := (yX8_changes, cX8_changes, 5, (some .int), 4, 93)
def M_X8_versionsHeld : MT := (yX8_versionsHeld, cX8_versionsHeld, 5, (some .int), 2, 43)
def M_X8_latestHeld : MT := (yX8_latestHeld, cX8_latestHeld, 4, (some .int), 2, 43)
def M_X8_isAhead : MT := (yX8_isAhead, cX8_isAhead, 7, (some .boolean), 3, 66)
def M_X8_ranked : MT := (yX8_ranked, cX8_ranked, 7, (some .int), 4, 92)
def M_X8_changeAt : MT := (yX8_changeAt, cX8_changeAt, 6, (some .int), 4, 93)
def M_X11_foundAt : MT := (yX11_foundAt, cX11_foundAt, 4, (some .int), 5, 118)
def M_X11_found : MT := (yX11_found, cX11_found, 7, (some .int), 7, 173)
def M_X12_asOf : MT := (yX12_asOf, cX12_asOf, 7, (some .int), 1, 21)
def M_X12_changes : MT := (yX12_changes, cX12_changes, 7, (some .int), 2, 47)
def M_X12_rankOf : MT := (yX12_rankOf, cX12_rankOf, 3, (some .int), 2, 43)
def M_X12_rank : MT := (yX12_rank, cX12_rank, 6, (some .int), 3, 65)
def M_X12_docsBy : MT := (yX12_docsBy, cX12_docsBy, 6, (some .int), 2, 43)
def M_X12_versionsBy : MT := (yX12_versionsBy, cX12_versionsBy, 4, (some .int), 2, 43)
def M_X12_found : MT := (yX12_found, cX12_found, 5, (some .int), 7, 169)
def M_X8_heldMost : MT := (yX8_heldMost, cX8_heldMost, 5, (some .int), 3, 67)
def M_X8_within : MT := (yX8_within, cX8_within, 5, (some .boolean), 2, 43)
def M_X8_sameCouples : MT := (yX8_sameCouples, cX8_sameCouples, 6, (some .int), 3, 67)
def M_X11_best : MT := (yX11_best, cX11_best, 6, (some .int), 7, 173)
def M_X12_bestAsking : MT := (yX12_bestAsking, cX12_bestAsking, 3, (some .int), 3, 66)
def M_X12_isWithin : MT := (yX12_isWithin, cX12_isWithin, 5, (some .boolean), 0, 0)
def M_X12_samePairs : MT := (yX12_samePairs, cX12_samePairs, 4, (some .int), 1, 24)
def M_X12_best : MT := (yX12_best, cX12_best, 4, (some .int), 7, 169)
def M_X11_implies : MT := (yX11_implies, cX11_implies, 7, (some .int), 7, 173)
def M_X12_implies : MT := (yX12_implies, cX12_implies, 5, (some .int), 7, 169)
def M_X9_huntAt : MT := (yX9_huntAt, cX9_huntAt, 2, (some (.object "VersionSearch$Hunt")), 3, 64)
def M_X3_has : MT := (yX3_has, cX3_has, 2, (some .boolean), 0, 0)
def M_X3_partOf : MT := (yX3_partOf, cX3_partOf, 3, (some .int), 1, 21)
def M_X11_fact : MT := (yX11_fact, cX11_fact, 5, (some .int), 4, 85)
def M_X12_hasHunt : MT := (yX12_hasHunt, cX12_hasHunt, 2, (some .boolean), 2, 44)
def M_X12_facts : MT := (yX12_facts, cX12_facts, 1, (some .int), 0, 0)
def M_X12_factOf : MT := (yX12_factOf, cX12_factOf, 3, (some .int), 0, 0)
def M_X12_fact : MT := (yX12_fact, cX12_fact, 4, (some .int), 3, 65)
def M_X3_slotsTold : MT := (yX3_slotsTold, cX3_slotsTold, 5, (some .long), 2, 43)
def M_X3_keepsTo : MT := (yX3_keepsTo, cX3_keepsTo, 6, (some .boolean), 0, 0)
def M_X3_fitting : MT := (yX3_fitting, cX3_fitting, 8, (some .int), 3, 67)
def M_X5_firstLetter : MT := (yX5_firstLetter, cX5_firstLetter, 1, (some .int), 0, 0)
def M_X3_sureLetter : MT := (yX3_sureLetter, cX3_sureLetter, 9, (some .int), 3, 67)
def M_X3_fittingIn : MT := (yX3_fittingIn, cX3_fittingIn, 11, (some .int), 3, 67)
def M_X3_askVersion : MT := (yX3_askVersion, cX3_askVersion, 10, (some .int), 4, 97)
def M_X3_fittingAt : MT := (yX3_fittingAt, cX3_fittingAt, 9, (some .int), 3, 67)
def M_X11_fits : MT := (yX11_fits, cX11_fits, 6, (some .int), 5, 126)
def M_X12_isSo : MT := (yX12_isSo, cX12_isSo, 6, (some .boolean), 4, 92)
def M_X12_noteFit : MT := (yX12_noteFit, cX12_noteFit, 6, none, 4, 92)
def M_X12_findWords : MT := (yX12_findWords, cX12_findWords, 3, none, 5, 117)
def M_X12_sureLetter : MT := (yX12_sureLetter, cX12_sureLetter, 2, (some .int), 0, 0)
def M_X12_askWhere : MT := (yX12_askWhere, cX12_askWhere, 5, (some .int), 3, 65)
def M_X12_fits : MT := (yX12_fits, cX12_fits, 4, (some .int), 6, 139)
def M_X1_below : MT := (yX1_below, cX1_below, 2, (some .int), 0, 0)
def M_X1_mayGoOn : MT := (yX1_mayGoOn, cX1_mayGoOn, 2, (some .boolean), 2, 42)
def M_X1_cut : MT := (yX1_cut, cX1_cut, 3, none, 4, 95)
def M_X0_firstTokenOf : MT := (yX0_firstTokenOf, cX0_firstTokenOf, 3, (some .int), 2, 42)
def M_X1_put : MT := (yX1_put, cX1_put, 4, none, 4, 96)
def M_X1_move : MT := (yX1_move, cX1_move, 5, none, 4, 94)
def M_X1_back : MT := (yX1_back, cX1_back, 3, none, 4, 93)
def M_X1_deed : MT := (yX1_deed, cX1_deed, 4, none, 5, 119)
def M_X1_goOn : MT := (yX1_goOn, cX1_goOn, 6, (some (.object "VersionSearch$Archive")), 6, 142)
def M_X0_tokensOf : MT := (yX0_tokensOf, cX0_tokensOf, 4, (some .int), 2, 42)
def M_X11_drawn : MT := (yX11_drawn, cX11_drawn, 9, (some .int), 7, 167)
def M_X12_draw : MT := (yX12_draw, cX12_draw, 2, (some .int), 0, 0)
def M_X12_firstToken : MT := (yX12_firstToken, cX12_firstToken, 3, (some .int), 0, 0)
def M_X12_makes : MT := (yX12_makes, cX12_makes, 2, none, 5, 117)
def M_X12_drawChange : MT := (yX12_drawChange, cX12_drawChange, 5, none, 6, 138)
def M_X12_tokensOf : MT := (yX12_tokensOf, cX12_tokensOf, 4, (some .int), 0, 0)
def M_X12_drawn : MT := (yX12_drawn, cX12_drawn, 7, (some .int), 7, 162)
def M_X11_count : MT := (yX11_count, cX11_count, 2, (some .int), 2, 42)
def M_X12_count : MT := (yX12_count, cX12_count, 2, (some .int), 1, 22)
def M_X10_copyFrom : MT := (yX10_copyFrom, cX10_copyFrom, 2, none, 1, 26)
def M_X9_copyFrom : MT := (yX9_copyFrom, cX9_copyFrom, 3, none, 3, 68)
def M_X11_image : MT := (yX11_image, cX11_image, 3, (some .boolean), 4, 90)
def M_X12_copyRow : MT := (yX12_copyRow, cX12_copyRow, 5, none, 0, 0)
def M_X12_copyAll : MT := (yX12_copyAll, cX12_copyAll, 4, none, 1, 24)
def M_X12_image : MT := (yX12_image, cX12_image, 2, (some .boolean), 2, 47)
def M_X11_again : MT := (yX11_again, cX11_again, 3, (some .boolean), 4, 90)
def M_X12_again : MT := (yX12_again, cX12_again, 2, (some .boolean), 2, 47)
def M_L_law : MT := (x, cL_law, 4, some .boolean, 13, 494)
theorem mk_J0_coder_7d493 : MOk M_J0_coder_7d493 := ⟨plainFor_of_name (by decide), tw579, tw151, by decide, by decide⟩
theorem np_J0_coder_7d493 : (parseMethodDescriptor (mY M_J0_coder_7d493).desc).map (fun d => d.parameters.length) = some 0 := by decide +kernel
theorem mk_J0_isLatin1_aae02 : MOk M_J0_isLatin1_aae02 := ⟨plainFor_of_name (by decide), tw589, tw151, by decide, by decide⟩
theorem np_J0_isLatin1_aae02 : (parseMethodDescriptor (mY M_J0_isLatin1_aae02).desc).map (fun d => d.parameters.length) = some 0 := by decide +kernel
theorem mk_J3_checkIndex_8e157 : MOk M_J3_checkIndex_8e157 := ⟨plainFor_of_name (by decide), tw600, tw153, by decide, by decide⟩
theorem np_J3_checkIndex_8e157 : (parseMethodDescriptor (mY M_J3_checkIndex_8e157).desc).map (fun d => d.parameters.length) = some 3 := by decide +kernel
theorem mk_J0_checkIndex_df160 : MOk M_J0_checkIndex_df160 := ⟨plainFor_of_name (by decide), tw595, tw151, by decide, by decide⟩
theorem np_J0_checkIndex_df160 : (parseMethodDescriptor (mY M_J0_checkIndex_df160).desc).map (fun d => d.parameters.length) = some 2 := by decide +kernel
theorem mk_J1_charAt_3b067 : MOk M_J1_charAt_3b067 := ⟨plainFor_of_name (by decide), tw592, tw152, by decide, by decide⟩
theorem np_J1_charAt_3b067 : (parseMethodDescriptor (mY M_J1_charAt_3b067).desc).map (fun d => d.parameters.length) = some 2 := by decide +kernel
theorem mk_J0_length_8abf5 : MOk M_J0_length_8abf5 := ⟨plainFor_of_name (by decide), tw575, tw151, by decide, by decide⟩
theorem np_J0_length_8abf5 : (parseMethodDescriptor (mY M_J0_length_8abf5).desc).map (fun d => d.parameters.length) = some 0 := by decide +kernel
theorem mk_J0_charAt_5068e : MOk M_J0_charAt_5068e := ⟨plainFor_of_name (by decide), tw585, tw151, by decide, by decide⟩
theorem np_J0_charAt_5068e : (parseMethodDescriptor (mY M_J0_charAt_5068e).desc).map (fun d => d.parameters.length) = some 1 := by decide +kernel
theorem mk_X10_init : MOk M_X10_init := ⟨plainFor_of_name (by decide), tw177, tw140, by decide, by decide⟩
theorem np_X10_init : (parseMethodDescriptor (mY M_X10_init).desc).map (fun d => d.parameters.length) = some 0 := by decide +kernel
theorem mk_X0_init : MOk M_X0_init := ⟨plainFor_of_name (by decide), tw209, tw141, by decide, by decide⟩
theorem np_X0_init : (parseMethodDescriptor (mY M_X0_init).desc).map (fun d => d.parameters.length) = some 0 := by decide +kernel
theorem mk_X6_init : MOk M_X6_init := ⟨plainFor_of_name (by decide), tw264, tw142, by decide, by decide⟩
theorem np_X6_init : (parseMethodDescriptor (mY M_X6_init).desc).map (fun d => d.parameters.length) = some 0 := by decide +kernel
theorem mk_X3_init : MOk M_X3_init := ⟨plainFor_of_name (by decide), tw288, tw143, by decide, by decide⟩
theorem np_X3_init : (parseMethodDescriptor (mY M_X3_init).desc).map (fun d => d.parameters.length) = some 0 := by decide +kernel
theorem mk_X9_init : MOk M_X9_init := ⟨plainFor_of_name (by decide), tw171, tw139, by decide, by decide⟩
theorem np_X9_init : (parseMethodDescriptor (mY M_X9_init).desc).map (fun d => d.parameters.length) = some 0 := by decide +kernel
theorem mk_X4_init : MOk M_X4_init := ⟨plainFor_of_name (by decide), tw335, tw145, by decide, by decide⟩
theorem np_X4_init : (parseMethodDescriptor (mY M_X4_init).desc).map (fun d => d.parameters.length) = some 0 := by decide +kernel
theorem mk_X7_init : MOk M_X7_init := ⟨plainFor_of_name (by decide), tw329, tw144, by decide, by decide⟩
theorem np_X7_init : (parseMethodDescriptor (mY M_X7_init).desc).map (fun d => d.parameters.length) = some 0 := by decide +kernel
theorem mk_X2_init : MOk M_X2_init := ⟨plainFor_of_name (by decide), tw412, tw146, by decide, by decide⟩
theorem np_X2_init : (parseMethodDescriptor (mY M_X2_init).desc).map (fun d => d.parameters.length) = some 0 := by decide +kernel
theorem mk_X8_init : MOk M_X8_init := ⟨plainFor_of_name (by decide), tw422, tw147, by decide, by decide⟩
theorem np_X8_init : (parseMethodDescriptor (mY M_X8_init).desc).map (fun d => d.parameters.length) = some 0 := by decide +kernel
theorem mk_X1_init : MOk M_X1_init := ⟨plainFor_of_name (by decide), tw432, tw148, by decide, by decide⟩
theorem np_X1_init : (parseMethodDescriptor (mY M_X1_init).desc).map (fun d => d.parameters.length) = some 0 := by decide +kernel
theorem mk_X11_init : MOk M_X11_init := ⟨plainFor_of_name (by decide), tw163, tw138, by decide, by decide⟩
theorem np_X11_init : (parseMethodDescriptor (mY M_X11_init).desc).map (fun d => d.parameters.length) = some 0 := by decide +kernel
theorem mk_X12_init : MOk M_X12_init := ⟨plainFor_of_name (by decide), tw1371, tw149, by decide, by decide⟩
theorem np_X12_init : (parseMethodDescriptor (mY M_X12_init).desc).map (fun d => d.parameters.length) = some 0 := by decide +kernel
theorem mk_X10_hasRoom : MOk M_X10_hasRoom := ⟨plainFor_of_name (by decide), tw472, tw140, by decide, by decide⟩
theorem np_X10_hasRoom : (parseMethodDescriptor (mY M_X10_hasRoom).desc).map (fun d => d.parameters.length) = some 0 := by decide +kernel
theorem mk_X10_add : MOk M_X10_add := ⟨plainFor_of_name (by decide), tw476, tw140, by decide, by decide⟩
theorem np_X10_add : (parseMethodDescriptor (mY M_X10_add).desc).map (fun d => d.parameters.length) = some 1 := by decide +kernel
theorem mk_X11_feed : MOk M_X11_feed := ⟨plainFor_of_name (by decide), tw468, tw138, by decide, by decide⟩
theorem np_X11_feed : (parseMethodDescriptor (mY M_X11_feed).desc).map (fun d => d.parameters.length) = some 5 := by decide +kernel
theorem mk_X12_four : MOk M_X12_four := ⟨plainFor_of_name (by decide), tw1493, tw149, by decide, by decide⟩
theorem np_X12_four : (parseMethodDescriptor (mY M_X12_four).desc).map (fun d => d.parameters.length) = some 1 := by decide +kernel
theorem mk_X12_feed : MOk M_X12_feed := ⟨plainFor_of_name (by decide), tw1489, tw149, by decide, by decide⟩
theorem np_X12_feed : (parseMethodDescriptor (mY M_X12_feed).desc).map (fun d => d.parameters.length) = some 5 := by decide +kernel
theorem mk_X11_end : MOk M_X11_end := ⟨plainFor_of_name (by decide), tw480, tw138, by decide, by decide⟩
theorem np_X11_end : (parseMethodDescriptor (mY M_X11_end).desc).map (fun d => d.parameters.length) = some 1 := by decide +kernel
theorem mk_X12_in : MOk M_X12_in := ⟨plainFor_of_name (by decide), tw1500, tw149, by decide, by decide⟩
theorem np_X12_in : (parseMethodDescriptor (mY M_X12_in).desc).map (fun d => d.parameters.length) = some 3 := by decide +kernel
theorem mk_X12_end : MOk M_X12_end := ⟨plainFor_of_name (by decide), tw1497, tw149, by decide, by decide⟩
theorem np_X12_end : (parseMethodDescriptor (mY M_X12_end).desc).map (fun d => d.parameters.length) = some 1 := by decide +kernel
theorem mk_X9_isSort : MOk M_X9_isSort := ⟨plainFor_of_name (by decide), tw492, tw139, by decide, by decide⟩
theorem np_X9_isSort : (parseMethodDescriptor (mY M_X9_isSort).desc).map (fun d => d.parameters.length) = some 1 := by decide +kernel
theorem mk_X5_at : MOk M_X5_at := ⟨plainFor_of_name (by decide), tw499, tw150, by decide, by decide⟩
theorem np_X5_at : (parseMethodDescriptor (mY M_X5_at).desc).map (fun d => d.parameters.length) = some 2 := by decide +kernel
theorem mk_X9_howMany : MOk M_X9_howMany := ⟨plainFor_of_name (by decide), tw496, tw139, by decide, by decide⟩
theorem np_X9_howMany : (parseMethodDescriptor (mY M_X9_howMany).desc).map (fun d => d.parameters.length) = some 1 := by decide +kernel
theorem mk_X9_isTold : MOk M_X9_isTold := ⟨plainFor_of_name (by decide), tw503, tw139, by decide, by decide⟩
theorem np_X9_isTold : (parseMethodDescriptor (mY M_X9_isTold).desc).map (fun d => d.parameters.length) = some 2 := by decide +kernel
theorem mk_X9_placeFor : MOk M_X9_placeFor := ⟨plainFor_of_name (by decide), tw488, tw139, by decide, by decide⟩
theorem np_X9_placeFor : (parseMethodDescriptor (mY M_X9_placeFor).desc).map (fun d => d.parameters.length) = some 2 := by decide +kernel
theorem mk_X5_set : MOk M_X5_set := ⟨plainFor_of_name (by decide), tw514, tw150, by decide, by decide⟩
theorem np_X5_set : (parseMethodDescriptor (mY M_X5_set).desc).map (fun d => d.parameters.length) = some 3 := by decide +kernel
theorem mk_X0_clear : MOk M_X0_clear := ⟨plainFor_of_name (by decide), tw511, tw141, by decide, by decide⟩
theorem np_X0_clear : (parseMethodDescriptor (mY M_X0_clear).desc).map (fun d => d.parameters.length) = some 0 := by decide +kernel
theorem mk_X10_rewind : MOk M_X10_rewind := ⟨plainFor_of_name (by decide), tw522, tw140, by decide, by decide⟩
theorem np_X10_rewind : (parseMethodDescriptor (mY M_X10_rewind).desc).map (fun d => d.parameters.length) = some 0 := by decide +kernel
theorem mk_X10_byteAt : MOk M_X10_byteAt := ⟨plainFor_of_name (by decide), tw534, tw140, by decide, by decide⟩
theorem np_X10_byteAt : (parseMethodDescriptor (mY M_X10_byteAt).desc).map (fun d => d.parameters.length) = some 1 := by decide +kernel
theorem mk_X10_isBlank : MOk M_X10_isBlank := ⟨plainFor_of_name (by decide), tw537, tw140, by decide, by decide⟩
theorem np_X10_isBlank : (parseMethodDescriptor (mY M_X10_isBlank).desc).map (fun d => d.parameters.length) = some 1 := by decide +kernel
theorem mk_X10_isLetter : MOk M_X10_isLetter := ⟨plainFor_of_name (by decide), tw540, tw140, by decide, by decide⟩
theorem np_X10_isLetter : (parseMethodDescriptor (mY M_X10_isLetter).desc).map (fun d => d.parameters.length) = some 1 := by decide +kernel
theorem mk_X10_isDigit : MOk M_X10_isDigit := ⟨plainFor_of_name (by decide), tw543, tw140, by decide, by decide⟩
theorem np_X10_isDigit : (parseMethodDescriptor (mY M_X10_isDigit).desc).map (fun d => d.parameters.length) = some 1 := by decide +kernel
theorem mk_X10_next : MOk M_X10_next := ⟨plainFor_of_name (by decide), tw530, tw140, by decide, by decide⟩
theorem np_X10_next : (parseMethodDescriptor (mY M_X10_next).desc).map (fun d => d.parameters.length) = some 0 := by decide +kernel
theorem mk_X4_sortOf : MOk M_X4_sortOf := ⟨plainFor_of_name (by decide), tw549, tw145, by decide, by decide⟩
theorem np_X4_sortOf : (parseMethodDescriptor (mY M_X4_sortOf).desc).map (fun d => d.parameters.length) = some 1 := by decide +kernel
theorem mk_X4_keywordOf : MOk M_X4_keywordOf := ⟨plainFor_of_name (by decide), tw552, tw145, by decide, by decide⟩
theorem np_X4_keywordOf : (parseMethodDescriptor (mY M_X4_keywordOf).desc).map (fun d => d.parameters.length) = some 1 := by decide +kernel
theorem mk_X10_tokenIs : MOk M_X10_tokenIs := ⟨plainFor_of_name (by decide), tw571, tw140, by decide, by decide⟩
theorem np_X10_tokenIs : (parseMethodDescriptor (mY M_X10_tokenIs).desc).map (fun d => d.parameters.length) = some 1 := by decide +kernel
theorem mk_X4_kindOf : MOk M_X4_kindOf := ⟨plainFor_of_name (by decide), tw546, tw145, by decide, by decide⟩
theorem np_X4_kindOf : (parseMethodDescriptor (mY M_X4_kindOf).desc).map (fun d => d.parameters.length) = some 2 := by decide +kernel
theorem mk_X4_shapeOf : MOk M_X4_shapeOf := ⟨plainFor_of_name (by decide), tw622, tw145, by decide, by decide⟩
theorem np_X4_shapeOf : (parseMethodDescriptor (mY M_X4_shapeOf).desc).map (fun d => d.parameters.length) = some 1 := by decide +kernel
theorem mk_X10_number : MOk M_X10_number := ⟨plainFor_of_name (by decide), tw639, tw140, by decide, by decide⟩
theorem np_X10_number : (parseMethodDescriptor (mY M_X10_number).desc).map (fun d => d.parameters.length) = some 0 := by decide +kernel
theorem mk_X4_takesNumber : MOk M_X4_takesNumber := ⟨plainFor_of_name (by decide), tw635, tw145, by decide, by decide⟩
theorem np_X4_takesNumber : (parseMethodDescriptor (mY M_X4_takesNumber).desc).map (fun d => d.parameters.length) = some 1 := by decide +kernel
theorem mk_X10_isWord : MOk M_X10_isWord := ⟨plainFor_of_name (by decide), tw648, tw140, by decide, by decide⟩
theorem np_X10_isWord : (parseMethodDescriptor (mY M_X10_isWord).desc).map (fun d => d.parameters.length) = some 0 := by decide +kernel
theorem mk_X10_spelling : MOk M_X10_spelling := ⟨plainFor_of_name (by decide), tw652, tw140, by decide, by decide⟩
theorem np_X10_spelling : (parseMethodDescriptor (mY M_X10_spelling).desc).map (fun d => d.parameters.length) = some 0 := by decide +kernel
theorem mk_X4_takesWord : MOk M_X4_takesWord := ⟨plainFor_of_name (by decide), tw644, tw145, by decide, by decide⟩
theorem np_X4_takesWord : (parseMethodDescriptor (mY M_X4_takesWord).desc).map (fun d => d.parameters.length) = some 1 := by decide +kernel
theorem mk_X4_read : MOk M_X4_read := ⟨plainFor_of_name (by decide), tw526, tw145, by decide, by decide⟩
theorem np_X4_read : (parseMethodDescriptor (mY M_X4_read).desc).map (fun d => d.parameters.length) = some 2 := by decide +kernel
theorem mk_X7_note : MOk M_X7_note := ⟨plainFor_of_name (by decide), tw656, tw144, by decide, by decide⟩
theorem np_X7_note : (parseMethodDescriptor (mY M_X7_note).desc).map (fun d => d.parameters.length) = some 2 := by decide +kernel
theorem mk_X7_noteNoText : MOk M_X7_noteNoText := ⟨plainFor_of_name (by decide), tw518, tw144, by decide, by decide⟩
theorem np_X7_noteNoText : (parseMethodDescriptor (mY M_X7_noteNoText).desc).map (fun d => d.parameters.length) = some 2 := by decide +kernel
theorem mk_X4_value : MOk M_X4_value := ⟨plainFor_of_name (by decide), tw664, tw145, by decide, by decide⟩
theorem np_X4_value : (parseMethodDescriptor (mY M_X4_value).desc).map (fun d => d.parameters.length) = some 1 := by decide +kernel
theorem mk_X7_least : MOk M_X7_least := ⟨plainFor_of_name (by decide), tw669, tw144, by decide, by decide⟩
theorem np_X7_least : (parseMethodDescriptor (mY M_X7_least).desc).map (fun d => d.parameters.length) = some 1 := by decide +kernel
theorem mk_J9_min_7cf53 : MOk M_J9_min_7cf53 := ⟨by decide +kernel, tw676, tw155, by decide, by decide⟩
theorem np_J9_min_7cf53 : (parseMethodDescriptor (mY M_J9_min_7cf53).desc).map (fun d => d.parameters.length) = some 2 := by decide +kernel
theorem mk_X7_most : MOk M_X7_most := ⟨plainFor_of_name (by decide), tw673, tw144, by decide, by decide⟩
theorem np_X7_most : (parseMethodDescriptor (mY M_X7_most).desc).map (fun d => d.parameters.length) = some 1 := by decide +kernel
theorem mk_X7_noteWhatCanNotBe : MOk M_X7_noteWhatCanNotBe := ⟨plainFor_of_name (by decide), tw660, tw144, by decide, by decide⟩
theorem np_X7_noteWhatCanNotBe : (parseMethodDescriptor (mY M_X7_noteWhatCanNotBe).desc).map (fun d => d.parameters.length) = some 0 := by decide +kernel
theorem mk_X7_noteTooManyWords : MOk M_X7_noteTooManyWords := ⟨plainFor_of_name (by decide), tw685, tw144, by decide, by decide⟩
theorem np_X7_noteTooManyWords : (parseMethodDescriptor (mY M_X7_noteTooManyWords).desc).map (fun d => d.parameters.length) = some 1 := by decide +kernel
theorem mk_X0_versionsOf : MOk M_X0_versionsOf := ⟨plainFor_of_name (by decide), tw693, tw141, by decide, by decide⟩
theorem np_X0_versionsOf : (parseMethodDescriptor (mY M_X0_versionsOf).desc).map (fun d => d.parameters.length) = some 1 := by decide +kernel
theorem mk_X0_hasDocument : MOk M_X0_hasDocument := ⟨plainFor_of_name (by decide), tw698, tw141, by decide, by decide⟩
theorem np_X0_hasDocument : (parseMethodDescriptor (mY M_X0_hasDocument).desc).map (fun d => d.parameters.length) = some 1 := by decide +kernel
theorem mk_X0_slotOf : MOk M_X0_slotOf := ⟨plainFor_of_name (by decide), tw711, tw141, by decide, by decide⟩
theorem np_X0_slotOf : (parseMethodDescriptor (mY M_X0_slotOf).desc).map (fun d => d.parameters.length) = some 2 := by decide +kernel
theorem mk_X0_lengthOf : MOk M_X0_lengthOf := ⟨plainFor_of_name (by decide), tw708, tw141, by decide, by decide⟩
theorem np_X0_lengthOf : (parseMethodDescriptor (mY M_X0_lengthOf).desc).map (fun d => d.parameters.length) = some 2 := by decide +kernel
theorem mk_X0_latestLength : MOk M_X0_latestLength := ⟨plainFor_of_name (by decide), tw702, tw141, by decide, by decide⟩
theorem np_X0_latestLength : (parseMethodDescriptor (mY M_X0_latestLength).desc).map (fun d => d.parameters.length) = some 1 := by decide +kernel
theorem mk_X0_hasVersion : MOk M_X0_hasVersion := ⟨plainFor_of_name (by decide), tw719, tw141, by decide, by decide⟩
theorem np_X0_hasVersion : (parseMethodDescriptor (mY M_X0_hasVersion).desc).map (fun d => d.parameters.length) = some 2 := by decide +kernel
theorem mk_X7_isThere : MOk M_X7_isThere := ⟨plainFor_of_name (by decide), tw715, tw144, by decide, by decide⟩
theorem np_X7_isThere : (parseMethodDescriptor (mY M_X7_isThere).desc).map (fun d => d.parameters.length) = some 2 := by decide +kernel
theorem mk_X7_noteFirstToken : MOk M_X7_noteFirstToken := ⟨plainFor_of_name (by decide), tw689, tw144, by decide, by decide⟩
theorem np_X7_noteFirstToken : (parseMethodDescriptor (mY M_X7_noteFirstToken).desc).map (fun d => d.parameters.length) = some 0 := by decide +kernel
theorem mk_X0_tokenAt : MOk M_X0_tokenAt := ⟨plainFor_of_name (by decide), tw735, tw141, by decide, by decide⟩
theorem np_X0_tokenAt : (parseMethodDescriptor (mY M_X0_tokenAt).desc).map (fun d => d.parameters.length) = some 3 := by decide +kernel
theorem mk_X0_open : MOk M_X0_open := ⟨plainFor_of_name (by decide), tw731, tw141, by decide, by decide⟩
theorem np_X0_open : (parseMethodDescriptor (mY M_X0_open).desc).map (fun d => d.parameters.length) = some 2 := by decide +kernel
theorem mk_X0_newToken : MOk M_X0_newToken := ⟨plainFor_of_name (by decide), tw739, tw141, by decide, by decide⟩
theorem np_X0_newToken : (parseMethodDescriptor (mY M_X0_newToken).desc).map (fun d => d.parameters.length) = some 2 := by decide +kernel
theorem mk_X0_insert : MOk M_X0_insert := ⟨plainFor_of_name (by decide), tw743, tw141, by decide, by decide⟩
theorem np_X0_insert : (parseMethodDescriptor (mY M_X0_insert).desc).map (fun d => d.parameters.length) = some 3 := by decide +kernel
theorem mk_X0_close : MOk M_X0_close := ⟨plainFor_of_name (by decide), tw747, tw141, by decide, by decide⟩
theorem np_X0_close : (parseMethodDescriptor (mY M_X0_close).desc).map (fun d => d.parameters.length) = some 3 := by decide +kernel
theorem mk_X0_addDocument : MOk M_X0_addDocument := ⟨plainFor_of_name (by decide), tw727, tw141, by decide, by decide⟩
theorem np_X0_addDocument : (parseMethodDescriptor (mY M_X0_addDocument).desc).map (fun d => d.parameters.length) = some 3 := by decide +kernel
theorem mk_X0_putWords : MOk M_X0_putWords := ⟨plainFor_of_name (by decide), tw751, tw141, by decide, by decide⟩
theorem np_X0_putWords : (parseMethodDescriptor (mY M_X0_putWords).desc).map (fun d => d.parameters.length) = some 5 := by decide +kernel
theorem mk_X0_remove : MOk M_X0_remove := ⟨plainFor_of_name (by decide), tw759, tw141, by decide, by decide⟩
theorem np_X0_remove : (parseMethodDescriptor (mY M_X0_remove).desc).map (fun d => d.parameters.length) = some 2 := by decide +kernel
theorem mk_X0_cutWords : MOk M_X0_cutWords := ⟨plainFor_of_name (by decide), tw755, tw141, by decide, by decide⟩
theorem np_X0_cutWords : (parseMethodDescriptor (mY M_X0_cutWords).desc).map (fun d => d.parameters.length) = some 4 := by decide +kernel
theorem mk_X0_moveWord : MOk M_X0_moveWord := ⟨plainFor_of_name (by decide), tw763, tw141, by decide, by decide⟩
theorem np_X0_moveWord : (parseMethodDescriptor (mY M_X0_moveWord).desc).map (fun d => d.parameters.length) = some 4 := by decide +kernel
theorem mk_X0_goBack : MOk M_X0_goBack := ⟨plainFor_of_name (by decide), tw767, tw141, by decide, by decide⟩
theorem np_X0_goBack : (parseMethodDescriptor (mY M_X0_goBack).desc).map (fun d => d.parameters.length) = some 3 := by decide +kernel
theorem mk_X7_makeVersion : MOk M_X7_makeVersion := ⟨plainFor_of_name (by decide), tw723, tw144, by decide, by decide⟩
theorem np_X7_makeVersion : (parseMethodDescriptor (mY M_X7_makeVersion).desc).map (fun d => d.parameters.length) = some 1 := by decide +kernel
theorem mk_X7_takeVersion : MOk M_X7_takeVersion := ⟨plainFor_of_name (by decide), tw681, tw144, by decide, by decide⟩
theorem np_X7_takeVersion : (parseMethodDescriptor (mY M_X7_takeVersion).desc).map (fun d => d.parameters.length) = some 1 := by decide +kernel
theorem mk_X6_wordsOf : MOk M_X6_wordsOf := ⟨plainFor_of_name (by decide), tw783, tw142, by decide, by decide⟩
theorem np_X6_wordsOf : (parseMethodDescriptor (mY M_X6_wordsOf).desc).map (fun d => d.parameters.length) = some 1 := by decide +kernel
theorem mk_X6_add : MOk M_X6_add := ⟨plainFor_of_name (by decide), tw775, tw142, by decide, by decide⟩
theorem np_X6_add : (parseMethodDescriptor (mY M_X6_add).desc).map (fun d => d.parameters.length) = some 1 := by decide +kernel
theorem mk_X7_takeQuestion : MOk M_X7_takeQuestion := ⟨plainFor_of_name (by decide), tw771, tw144, by decide, by decide⟩
theorem np_X7_takeQuestion : (parseMethodDescriptor (mY M_X7_takeQuestion).desc).map (fun d => d.parameters.length) = some 0 := by decide +kernel
theorem mk_X3_add : MOk M_X3_add := ⟨plainFor_of_name (by decide), tw791, tw143, by decide, by decide⟩
theorem np_X3_add : (parseMethodDescriptor (mY M_X3_add).desc).map (fun d => d.parameters.length) = some 1 := by decide +kernel
theorem mk_X7_takeFact : MOk M_X7_takeFact := ⟨plainFor_of_name (by decide), tw787, tw144, by decide, by decide⟩
theorem np_X7_takeFact : (parseMethodDescriptor (mY M_X7_takeFact).desc).map (fun d => d.parameters.length) = some 0 := by decide +kernel
theorem mk_X0_wordAt : MOk M_X0_wordAt := ⟨plainFor_of_name (by decide), tw805, tw141, by decide, by decide⟩
theorem np_X0_wordAt : (parseMethodDescriptor (mY M_X0_wordAt).desc).map (fun d => d.parameters.length) = some 1 := by decide +kernel
theorem mk_X0_placeOfWord : MOk M_X0_placeOfWord := ⟨plainFor_of_name (by decide), tw801, tw141, by decide, by decide⟩
theorem np_X0_placeOfWord : (parseMethodDescriptor (mY M_X0_placeOfWord).desc).map (fun d => d.parameters.length) = some 1 := by decide +kernel
theorem mk_X0_openWord : MOk M_X0_openWord := ⟨plainFor_of_name (by decide), tw809, tw141, by decide, by decide⟩
theorem np_X0_openWord : (parseMethodDescriptor (mY M_X0_openWord).desc).map (fun d => d.parameters.length) = some 2 := by decide +kernel
theorem mk_X0_stayOf : MOk M_X0_stayOf := ⟨plainFor_of_name (by decide), tw813, tw141, by decide, by decide⟩
theorem np_X0_stayOf : (parseMethodDescriptor (mY M_X0_stayOf).desc).map (fun d => d.parameters.length) = some 1 := by decide +kernel
theorem mk_X0_ownerOf : MOk M_X0_ownerOf := ⟨plainFor_of_name (by decide), tw817, tw141, by decide, by decide⟩
theorem np_X0_ownerOf : (parseMethodDescriptor (mY M_X0_ownerOf).desc).map (fun d => d.parameters.length) = some 1 := by decide +kernel
theorem mk_X0_listWords : MOk M_X0_listWords := ⟨plainFor_of_name (by decide), tw797, tw141, by decide, by decide⟩
theorem np_X0_listWords : (parseMethodDescriptor (mY M_X0_listWords).desc).map (fun d => d.parameters.length) = some 0 := by decide +kernel
theorem mk_X7_take : MOk M_X7_take := ⟨plainFor_of_name (by decide), tw507, tw144, by decide, by decide⟩
theorem np_X7_take : (parseMethodDescriptor (mY M_X7_take).desc).map (fun d => d.parameters.length) = some 2 := by decide +kernel
theorem mk_X5_copy : MOk M_X5_copy := ⟨plainFor_of_name (by decide), tw828, tw150, by decide, by decide⟩
theorem np_X5_copy : (parseMethodDescriptor (mY M_X5_copy).desc).map (fun d => d.parameters.length) = some 2 := by decide +kernel
theorem mk_X0_copyFrom : MOk M_X0_copyFrom := ⟨plainFor_of_name (by decide), tw825, tw141, by decide, by decide⟩
theorem np_X0_copyFrom : (parseMethodDescriptor (mY M_X0_copyFrom).desc).map (fun d => d.parameters.length) = some 1 := by decide +kernel
theorem mk_X6_copyFrom : MOk M_X6_copyFrom := ⟨plainFor_of_name (by decide), tw838, tw142, by decide, by decide⟩
theorem np_X6_copyFrom : (parseMethodDescriptor (mY M_X6_copyFrom).desc).map (fun d => d.parameters.length) = some 1 := by decide +kernel
theorem mk_X3_copyFrom : MOk M_X3_copyFrom := ⟨plainFor_of_name (by decide), tw843, tw143, by decide, by decide⟩
theorem np_X3_copyFrom : (parseMethodDescriptor (mY M_X3_copyFrom).desc).map (fun d => d.parameters.length) = some 1 := by decide +kernel
theorem mk_J9_max_7cf53 : MOk M_J9_max_7cf53 := ⟨by decide +kernel, tw847, tw155, by decide, by decide⟩
theorem np_J9_max_7cf53 : (parseMethodDescriptor (mY M_J9_max_7cf53).desc).map (fun d => d.parameters.length) = some 2 := by decide +kernel
theorem mk_X9_keep : MOk M_X9_keep := ⟨plainFor_of_name (by decide), tw821, tw139, by decide, by decide⟩
theorem np_X9_keep : (parseMethodDescriptor (mY M_X9_keep).desc).map (fun d => d.parameters.length) = some 3 := by decide +kernel
theorem mk_X11_text : MOk M_X11_text := ⟨plainFor_of_name (by decide), tw484, tw138, by decide, by decide⟩
theorem np_X11_text : (parseMethodDescriptor (mY M_X11_text).desc).map (fun d => d.parameters.length) = some 2 := by decide +kernel
theorem mk_X12_is : MOk M_X12_is := ⟨plainFor_of_name (by decide), tw1508, tw149, by decide, by decide⟩
theorem np_X12_is : (parseMethodDescriptor (mY M_X12_is).desc).map (fun d => d.parameters.length) = some 2 := by decide +kernel
theorem mk_X12_see : MOk M_X12_see := ⟨plainFor_of_name (by decide), tw1520, tw149, by decide, by decide⟩
theorem np_X12_see : (parseMethodDescriptor (mY M_X12_see).desc).map (fun d => d.parameters.length) = some 0 := by decide +kernel
theorem mk_X12_token : MOk M_X12_token := ⟨plainFor_of_name (by decide), tw1516, tw149, by decide, by decide⟩
theorem np_X12_token : (parseMethodDescriptor (mY M_X12_token).desc).map (fun d => d.parameters.length) = some 0 := by decide +kernel
theorem mk_X12_changeBy : MOk M_X12_changeBy := ⟨plainFor_of_name (by decide), tw1532, tw149, by decide, by decide⟩
theorem np_X12_changeBy : (parseMethodDescriptor (mY M_X12_changeBy).desc).map (fun d => d.parameters.length) = some 1 := by decide +kernel
theorem mk_X12_addsFault : MOk M_X12_addsFault := ⟨plainFor_of_name (by decide), tw1545, tw149, by decide, by decide⟩
theorem np_X12_addsFault : (parseMethodDescriptor (mY M_X12_addsFault).desc).map (fun d => d.parameters.length) = some 2 := by decide +kernel
theorem mk_X12_fails : MOk M_X12_fails := ⟨plainFor_of_name (by decide), tw1557, tw149, by decide, by decide⟩
theorem np_X12_fails : (parseMethodDescriptor (mY M_X12_fails).desc).map (fun d => d.parameters.length) = some 0 := by decide +kernel
theorem mk_X12_numberOf : MOk M_X12_numberOf := ⟨plainFor_of_name (by decide), tw1560, tw149, by decide, by decide⟩
theorem np_X12_numberOf : (parseMethodDescriptor (mY M_X12_numberOf).desc).map (fun d => d.parameters.length) = some 1 := by decide +kernel
theorem mk_X12_takeWord : MOk M_X12_takeWord := ⟨plainFor_of_name (by decide), tw1553, tw149, by decide, by decide⟩
theorem np_X12_takeWord : (parseMethodDescriptor (mY M_X12_takeWord).desc).map (fun d => d.parameters.length) = some 0 := by decide +kernel
theorem mk_X12_takeWords : MOk M_X12_takeWords := ⟨plainFor_of_name (by decide), tw1549, tw149, by decide, by decide⟩
theorem np_X12_takeWords : (parseMethodDescriptor (mY M_X12_takeWords).desc).map (fun d => d.parameters.length) = some 1 := by decide +kernel
theorem mk_X12_at : MOk M_X12_at := ⟨plainFor_of_name (by decide), tw1572, tw149, by decide, by decide⟩
theorem np_X12_at : (parseMethodDescriptor (mY M_X12_at).desc).map (fun d => d.parameters.length) = some 2 := by decide +kernel
theorem mk_X12_latest : MOk M_X12_latest := ⟨plainFor_of_name (by decide), tw1569, tw149, by decide, by decide⟩
theorem np_X12_latest : (parseMethodDescriptor (mY M_X12_latest).desc).map (fun d => d.parameters.length) = some 1 := by decide +kernel
theorem mk_X12_beginVersion : MOk M_X12_beginVersion := ⟨plainFor_of_name (by decide), tw1565, tw149, by decide, by decide⟩
theorem np_X12_beginVersion : (parseMethodDescriptor (mY M_X12_beginVersion).desc).map (fun d => d.parameters.length) = some 1 := by decide +kernel
theorem mk_X12_lesser : MOk M_X12_lesser := ⟨plainFor_of_name (by decide), tw1579, tw149, by decide, by decide⟩
theorem np_X12_lesser : (parseMethodDescriptor (mY M_X12_lesser).desc).map (fun d => d.parameters.length) = some 2 := by decide +kernel
theorem mk_X12_newToken : MOk M_X12_newToken := ⟨plainFor_of_name (by decide), tw1576, tw149, by decide, by decide⟩
theorem np_X12_newToken : (parseMethodDescriptor (mY M_X12_newToken).desc).map (fun d => d.parameters.length) = some 2 := by decide +kernel
theorem mk_X12_addWord : MOk M_X12_addWord := ⟨plainFor_of_name (by decide), tw1583, tw149, by decide, by decide⟩
theorem np_X12_addWord : (parseMethodDescriptor (mY M_X12_addWord).desc).map (fun d => d.parameters.length) = some 2 := by decide +kernel
theorem mk_X12_docLine : MOk M_X12_docLine := ⟨plainFor_of_name (by decide), tw1541, tw149, by decide, by decide⟩
theorem np_X12_docLine : (parseMethodDescriptor (mY M_X12_docLine).desc).map (fun d => d.parameters.length) = some 1 := by decide +kernel
theorem mk_X12_take : MOk M_X12_take := ⟨plainFor_of_name (by decide), tw1595, tw149, by decide, by decide⟩
theorem np_X12_take : (parseMethodDescriptor (mY M_X12_take).desc).map (fun d => d.parameters.length) = some 3 := by decide +kernel
theorem mk_X12_readPut : MOk M_X12_readPut := ⟨plainFor_of_name (by decide), tw1599, tw149, by decide, by decide⟩
theorem np_X12_readPut : (parseMethodDescriptor (mY M_X12_readPut).desc).map (fun d => d.parameters.length) = some 0 := by decide +kernel
theorem mk_X12_readChange : MOk M_X12_readChange := ⟨plainFor_of_name (by decide), tw1591, tw149, by decide, by decide⟩
theorem np_X12_readChange : (parseMethodDescriptor (mY M_X12_readChange).desc).map (fun d => d.parameters.length) = some 1 := by decide +kernel
theorem mk_X12_isThere : MOk M_X12_isThere := ⟨plainFor_of_name (by decide), tw1603, tw149, by decide, by decide⟩
theorem np_X12_isThere : (parseMethodDescriptor (mY M_X12_isThere).desc).map (fun d => d.parameters.length) = some 1 := by decide +kernel
theorem mk_X12_moves : MOk M_X12_moves := ⟨plainFor_of_name (by decide), tw1611, tw149, by decide, by decide⟩
theorem np_X12_moves : (parseMethodDescriptor (mY M_X12_moves).desc).map (fun d => d.parameters.length) = some 3 := by decide +kernel
theorem mk_X12_makeVersion : MOk M_X12_makeVersion := ⟨plainFor_of_name (by decide), tw1607, tw149, by decide, by decide⟩
theorem np_X12_makeVersion : (parseMethodDescriptor (mY M_X12_makeVersion).desc).map (fun d => d.parameters.length) = some 1 := by decide +kernel
theorem mk_X12_changeLine : MOk M_X12_changeLine := ⟨plainFor_of_name (by decide), tw1587, tw149, by decide, by decide⟩
theorem np_X12_changeLine : (parseMethodDescriptor (mY M_X12_changeLine).desc).map (fun d => d.parameters.length) = some 2 := by decide +kernel
theorem mk_X12_archiveLine : MOk M_X12_archiveLine := ⟨plainFor_of_name (by decide), tw1528, tw149, by decide, by decide⟩
theorem np_X12_archiveLine : (parseMethodDescriptor (mY M_X12_archiveLine).desc).map (fun d => d.parameters.length) = some 2 := by decide +kernel
theorem mk_X12_askingBy : MOk M_X12_askingBy := ⟨plainFor_of_name (by decide), tw1619, tw149, by decide, by decide⟩
theorem np_X12_askingBy : (parseMethodDescriptor (mY M_X12_askingBy).desc).map (fun d => d.parameters.length) = some 1 := by decide +kernel
theorem mk_X12_readAsking : MOk M_X12_readAsking := ⟨plainFor_of_name (by decide), tw1631, tw149, by decide, by decide⟩
theorem np_X12_readAsking : (parseMethodDescriptor (mY M_X12_readAsking).desc).map (fun d => d.parameters.length) = some 2 := by decide +kernel
theorem mk_X12_askingLine : MOk M_X12_askingLine := ⟨plainFor_of_name (by decide), tw1615, tw149, by decide, by decide⟩
theorem np_X12_askingLine : (parseMethodDescriptor (mY M_X12_askingLine).desc).map (fun d => d.parameters.length) = some 2 := by decide +kernel
theorem mk_X12_huntLine : MOk M_X12_huntLine := ⟨plainFor_of_name (by decide), tw1635, tw149, by decide, by decide⟩
theorem np_X12_huntLine : (parseMethodDescriptor (mY M_X12_huntLine).desc).map (fun d => d.parameters.length) = some 2 := by decide +kernel
theorem mk_X12_allLines : MOk M_X12_allLines := ⟨plainFor_of_name (by decide), tw1524, tw149, by decide, by decide⟩
theorem np_X12_allLines : (parseMethodDescriptor (mY M_X12_allLines).desc).map (fun d => d.parameters.length) = some 1 := by decide +kernel
theorem mk_X12_readText : MOk M_X12_readText := ⟨plainFor_of_name (by decide), tw1512, tw149, by decide, by decide⟩
theorem np_X12_readText : (parseMethodDescriptor (mY M_X12_readText).desc).map (fun d => d.parameters.length) = some 1 := by decide +kernel
theorem mk_X12_store : MOk M_X12_store := ⟨plainFor_of_name (by decide), tw1641, tw149, by decide, by decide⟩
theorem np_X12_store : (parseMethodDescriptor (mY M_X12_store).desc).map (fun d => d.parameters.length) = some 3 := by decide +kernel
theorem mk_X12_text : MOk M_X12_text := ⟨plainFor_of_name (by decide), tw1504, tw149, by decide, by decide⟩
theorem np_X12_text : (parseMethodDescriptor (mY M_X12_text).desc).map (fun d => d.parameters.length) = some 2 := by decide +kernel
theorem mk_X11_fault : MOk M_X11_fault := ⟨plainFor_of_name (by decide), tw852, tw138, by decide, by decide⟩
theorem np_X11_fault : (parseMethodDescriptor (mY M_X11_fault).desc).map (fun d => d.parameters.length) = some 1 := by decide +kernel
theorem mk_X12_fault : MOk M_X12_fault := ⟨plainFor_of_name (by decide), tw1645, tw149, by decide, by decide⟩
theorem np_X12_fault : (parseMethodDescriptor (mY M_X12_fault).desc).map (fun d => d.parameters.length) = some 1 := by decide +kernel
theorem mk_X9_archiveAt : MOk M_X9_archiveAt := ⟨plainFor_of_name (by decide), tw860, tw139, by decide, by decide⟩
theorem np_X9_archiveAt : (parseMethodDescriptor (mY M_X9_archiveAt).desc).map (fun d => d.parameters.length) = some 1 := by decide +kernel
theorem mk_X0_versionsOfAll : MOk M_X0_versionsOfAll := ⟨plainFor_of_name (by decide), tw864, tw141, by decide, by decide⟩
theorem np_X0_versionsOfAll : (parseMethodDescriptor (mY M_X0_versionsOfAll).desc).map (fun d => d.parameters.length) = some 0 := by decide +kernel
theorem mk_X2_size : MOk M_X2_size := ⟨plainFor_of_name (by decide), tw868, tw146, by decide, by decide⟩
theorem np_X2_size : (parseMethodDescriptor (mY M_X2_size).desc).map (fun d => d.parameters.length) = some 1 := by decide +kernel
theorem mk_J6_bitCount_0f7a4 : MOk M_J6_bitCount_0f7a4 := ⟨plainFor_of_name (by decide), tw881, tw157, by decide, by decide⟩
theorem np_J6_bitCount_0f7a4 : (parseMethodDescriptor (mY M_J6_bitCount_0f7a4).desc).map (fun d => d.parameters.length) = some 1 := by decide +kernel
theorem mk_X5_runs : MOk M_X5_runs := ⟨plainFor_of_name (by decide), tw878, tw150, by decide, by decide⟩
theorem np_X5_runs : (parseMethodDescriptor (mY M_X5_runs).desc).map (fun d => d.parameters.length) = some 1 := by decide +kernel
theorem mk_X2_postings : MOk M_X2_postings := ⟨plainFor_of_name (by decide), tw874, tw146, by decide, by decide⟩
theorem np_X2_postings : (parseMethodDescriptor (mY M_X2_postings).desc).map (fun d => d.parameters.length) = some 1 := by decide +kernel
theorem mk_X2_longestDocument : MOk M_X2_longestDocument := ⟨plainFor_of_name (by decide), tw888, tw146, by decide, by decide⟩
theorem np_X2_longestDocument : (parseMethodDescriptor (mY M_X2_longestDocument).desc).map (fun d => d.parameters.length) = some 1 := by decide +kernel
theorem mk_X0_spellingAt : MOk M_X0_spellingAt := ⟨plainFor_of_name (by decide), tw905, tw141, by decide, by decide⟩
theorem np_X0_spellingAt : (parseMethodDescriptor (mY M_X0_spellingAt).desc).map (fun d => d.parameters.length) = some 3 := by decide +kernel
theorem mk_X2_sameWords : MOk M_X2_sameWords := ⟨plainFor_of_name (by decide), tw901, tw146, by decide, by decide⟩
theorem np_X2_sameWords : (parseMethodDescriptor (mY M_X2_sameWords).desc).map (fun d => d.parameters.length) = some 5 := by decide +kernel
theorem mk_X2_twinsAhead : MOk M_X2_twinsAhead := ⟨plainFor_of_name (by decide), tw897, tw146, by decide, by decide⟩
theorem np_X2_twinsAhead : (parseMethodDescriptor (mY M_X2_twinsAhead).desc).map (fun d => d.parameters.length) = some 3 := by decide +kernel
theorem mk_X2_twins : MOk M_X2_twins := ⟨plainFor_of_name (by decide), tw893, tw146, by decide, by decide⟩
theorem np_X2_twins : (parseMethodDescriptor (mY M_X2_twins).desc).map (fun d => d.parameters.length) = some 1 := by decide +kernel
theorem mk_X5_firstBit : MOk M_X5_firstBit := ⟨plainFor_of_name (by decide), tw919, tw150, by decide, by decide⟩
theorem np_X5_firstBit : (parseMethodDescriptor (mY M_X5_firstBit).desc).map (fun d => d.parameters.length) = some 1 := by decide +kernel
theorem mk_X5_bit : MOk M_X5_bit := ⟨plainFor_of_name (by decide), tw926, tw150, by decide, by decide⟩
theorem np_X5_bit : (parseMethodDescriptor (mY M_X5_bit).desc).map (fun d => d.parameters.length) = some 2 := by decide +kernel
theorem mk_X2_placeOf : MOk M_X2_placeOf := ⟨plainFor_of_name (by decide), tw930, tw146, by decide, by decide⟩
theorem np_X2_placeOf : (parseMethodDescriptor (mY M_X2_placeOf).desc).map (fun d => d.parameters.length) = some 4 := by decide +kernel
theorem mk_X2_stayTogether : MOk M_X2_stayTogether := ⟨plainFor_of_name (by decide), tw923, tw146, by decide, by decide⟩
theorem np_X2_stayTogether : (parseMethodDescriptor (mY M_X2_stayTogether).desc).map (fun d => d.parameters.length) = some 4 := by decide +kernel
theorem mk_X2_passages : MOk M_X2_passages := ⟨plainFor_of_name (by decide), tw915, tw146, by decide, by decide⟩
theorem np_X2_passages : (parseMethodDescriptor (mY M_X2_passages).desc).map (fun d => d.parameters.length) = some 3 := by decide +kernel
theorem mk_X0_everyVersion : MOk M_X0_everyVersion := ⟨plainFor_of_name (by decide), tw940, tw141, by decide, by decide⟩
theorem np_X0_everyVersion : (parseMethodDescriptor (mY M_X0_everyVersion).desc).map (fun d => d.parameters.length) = some 1 := by decide +kernel
theorem mk_X2_kept : MOk M_X2_kept := ⟨plainFor_of_name (by decide), tw935, tw146, by decide, by decide⟩
theorem np_X2_kept : (parseMethodDescriptor (mY M_X2_kept).desc).map (fun d => d.parameters.length) = some 2 := by decide +kernel
theorem mk_X2_wasBefore : MOk M_X2_wasBefore := ⟨plainFor_of_name (by decide), tw948, tw146, by decide, by decide⟩
theorem np_X2_wasBefore : (parseMethodDescriptor (mY M_X2_wasBefore).desc).map (fun d => d.parameters.length) = some 3 := by decide +kernel
theorem mk_X2_returns : MOk M_X2_returns := ⟨plainFor_of_name (by decide), tw944, tw146, by decide, by decide⟩
theorem np_X2_returns : (parseMethodDescriptor (mY M_X2_returns).desc).map (fun d => d.parameters.length) = some 2 := by decide +kernel
theorem mk_X11_ofDocument : MOk M_X11_ofDocument := ⟨plainFor_of_name (by decide), tw909, tw138, by decide, by decide⟩
theorem np_X11_ofDocument : (parseMethodDescriptor (mY M_X11_ofDocument).desc).map (fun d => d.parameters.length) = some 2 := by decide +kernel
theorem mk_X11_archive : MOk M_X11_archive := ⟨plainFor_of_name (by decide), tw856, tw138, by decide, by decide⟩
theorem np_X11_archive : (parseMethodDescriptor (mY M_X11_archive).desc).map (fun d => d.parameters.length) = some 2 := by decide +kernel
theorem mk_X12_hand : MOk M_X12_hand := ⟨plainFor_of_name (by decide), tw1653, tw149, by decide, by decide⟩
theorem np_X12_hand : (parseMethodDescriptor (mY M_X12_hand).desc).map (fun d => d.parameters.length) = some 1 := by decide +kernel
theorem mk_X12_isDoc : MOk M_X12_isDoc := ⟨plainFor_of_name (by decide), tw1661, tw149, by decide, by decide⟩
theorem np_X12_isDoc : (parseMethodDescriptor (mY M_X12_isDoc).desc).map (fun d => d.parameters.length) = some 1 := by decide +kernel
theorem mk_X12_versions : MOk M_X12_versions := ⟨plainFor_of_name (by decide), tw1665, tw149, by decide, by decide⟩
theorem np_X12_versions : (parseMethodDescriptor (mY M_X12_versions).desc).map (fun d => d.parameters.length) = some 1 := by decide +kernel
theorem mk_X12_longOf : MOk M_X12_longOf := ⟨plainFor_of_name (by decide), tw1681, tw149, by decide, by decide⟩
theorem np_X12_longOf : (parseMethodDescriptor (mY M_X12_longOf).desc).map (fun d => d.parameters.length) = some 2 := by decide +kernel
theorem mk_X12_tokenAt : MOk M_X12_tokenAt := ⟨plainFor_of_name (by decide), tw1685, tw149, by decide, by decide⟩
theorem np_X12_tokenAt : (parseMethodDescriptor (mY M_X12_tokenAt).desc).map (fun d => d.parameters.length) = some 3 := by decide +kernel
theorem mk_X12_placeOf : MOk M_X12_placeOf := ⟨plainFor_of_name (by decide), tw1677, tw149, by decide, by decide⟩
theorem np_X12_placeOf : (parseMethodDescriptor (mY M_X12_placeOf).desc).map (fun d => d.parameters.length) = some 3 := by decide +kernel
theorem mk_X12_whereIs : MOk M_X12_whereIs := ⟨plainFor_of_name (by decide), tw1673, tw149, by decide, by decide⟩
theorem np_X12_whereIs : (parseMethodDescriptor (mY M_X12_whereIs).desc).map (fun d => d.parameters.length) = some 1 := by decide +kernel
theorem mk_X12_has : MOk M_X12_has := ⟨plainFor_of_name (by decide), tw1696, tw149, by decide, by decide⟩
theorem np_X12_has : (parseMethodDescriptor (mY M_X12_has).desc).map (fun d => d.parameters.length) = some 2 := by decide +kernel
theorem mk_X12_behindOf : MOk M_X12_behindOf := ⟨plainFor_of_name (by decide), tw1693, tw149, by decide, by decide⟩
theorem np_X12_behindOf : (parseMethodDescriptor (mY M_X12_behindOf).desc).map (fun d => d.parameters.length) = some 3 := by decide +kernel
theorem mk_X12_hasAhead : MOk M_X12_hasAhead := ⟨plainFor_of_name (by decide), tw1689, tw149, by decide, by decide⟩
theorem np_X12_hasAhead : (parseMethodDescriptor (mY M_X12_hasAhead).desc).map (fun d => d.parameters.length) = some 3 := by decide +kernel
theorem mk_X12_greater : MOk M_X12_greater := ⟨plainFor_of_name (by decide), tw1699, tw149, by decide, by decide⟩
theorem np_X12_greater : (parseMethodDescriptor (mY M_X12_greater).desc).map (fun d => d.parameters.length) = some 2 := by decide +kernel
theorem mk_X12_passages : MOk M_X12_passages := ⟨plainFor_of_name (by decide), tw1669, tw149, by decide, by decide⟩
theorem np_X12_passages : (parseMethodDescriptor (mY M_X12_passages).desc).map (fun d => d.parameters.length) = some 2 := by decide +kernel
theorem mk_X12_ones : MOk M_X12_ones := ⟨plainFor_of_name (by decide), tw1706, tw149, by decide, by decide⟩
theorem np_X12_ones : (parseMethodDescriptor (mY M_X12_ones).desc).map (fun d => d.parameters.length) = some 1 := by decide +kernel
theorem mk_X12_keptIn : MOk M_X12_keptIn := ⟨plainFor_of_name (by decide), tw1703, tw149, by decide, by decide⟩
theorem np_X12_keptIn : (parseMethodDescriptor (mY M_X12_keptIn).desc).map (fun d => d.parameters.length) = some 1 := by decide +kernel
theorem mk_X12_wordOf : MOk M_X12_wordOf := ⟨plainFor_of_name (by decide), tw1722, tw149, by decide, by decide⟩
theorem np_X12_wordOf : (parseMethodDescriptor (mY M_X12_wordOf).desc).map (fun d => d.parameters.length) = some 1 := by decide +kernel
theorem mk_X12_wordAt : MOk M_X12_wordAt := ⟨plainFor_of_name (by decide), tw1718, tw149, by decide, by decide⟩
theorem np_X12_wordAt : (parseMethodDescriptor (mY M_X12_wordAt).desc).map (fun d => d.parameters.length) = some 3 := by decide +kernel
theorem mk_X12_areAlike : MOk M_X12_areAlike := ⟨plainFor_of_name (by decide), tw1714, tw149, by decide, by decide⟩
theorem np_X12_areAlike : (parseMethodDescriptor (mY M_X12_areAlike).desc).map (fun d => d.parameters.length) = some 4 := by decide +kernel
theorem mk_X12_returns : MOk M_X12_returns := ⟨plainFor_of_name (by decide), tw1710, tw149, by decide, by decide⟩
theorem np_X12_returns : (parseMethodDescriptor (mY M_X12_returns).desc).map (fun d => d.parameters.length) = some 1 := by decide +kernel
theorem mk_X12_ofDoc : MOk M_X12_ofDoc := ⟨plainFor_of_name (by decide), tw1657, tw149, by decide, by decide⟩
theorem np_X12_ofDoc : (parseMethodDescriptor (mY M_X12_ofDoc).desc).map (fun d => d.parameters.length) = some 2 := by decide +kernel
theorem mk_X12_versionsAll : MOk M_X12_versionsAll := ⟨plainFor_of_name (by decide), tw1726, tw149, by decide, by decide⟩
theorem np_X12_versionsAll : (parseMethodDescriptor (mY M_X12_versionsAll).desc).map (fun d => d.parameters.length) = some 0 := by decide +kernel
theorem mk_X12_sizeAll : MOk M_X12_sizeAll := ⟨plainFor_of_name (by decide), tw1730, tw149, by decide, by decide⟩
theorem np_X12_sizeAll : (parseMethodDescriptor (mY M_X12_sizeAll).desc).map (fun d => d.parameters.length) = some 0 := by decide +kernel
theorem mk_X12_rowsIn : MOk M_X12_rowsIn := ⟨plainFor_of_name (by decide), tw1737, tw149, by decide, by decide⟩
theorem np_X12_rowsIn : (parseMethodDescriptor (mY M_X12_rowsIn).desc).map (fun d => d.parameters.length) = some 1 := by decide +kernel
theorem mk_X12_postings : MOk M_X12_postings := ⟨plainFor_of_name (by decide), tw1734, tw149, by decide, by decide⟩
theorem np_X12_postings : (parseMethodDescriptor (mY M_X12_postings).desc).map (fun d => d.parameters.length) = some 0 := by decide +kernel
theorem mk_X12_longest : MOk M_X12_longest := ⟨plainFor_of_name (by decide), tw1741, tw149, by decide, by decide⟩
theorem np_X12_longest : (parseMethodDescriptor (mY M_X12_longest).desc).map (fun d => d.parameters.length) = some 0 := by decide +kernel
theorem mk_X12_isVersion : MOk M_X12_isVersion := ⟨plainFor_of_name (by decide), tw1749, tw149, by decide, by decide⟩
theorem np_X12_isVersion : (parseMethodDescriptor (mY M_X12_isVersion).desc).map (fun d => d.parameters.length) = some 2 := by decide +kernel
theorem mk_X12_twins : MOk M_X12_twins := ⟨plainFor_of_name (by decide), tw1745, tw149, by decide, by decide⟩
theorem np_X12_twins : (parseMethodDescriptor (mY M_X12_twins).desc).map (fun d => d.parameters.length) = some 0 := by decide +kernel
theorem mk_X12_widened : MOk M_X12_widened := ⟨plainFor_of_name (by decide), tw1756, tw149, by decide, by decide⟩
theorem np_X12_widened : (parseMethodDescriptor (mY M_X12_widened).desc).map (fun d => d.parameters.length) = some 1 := by decide +kernel
theorem mk_X12_layWords : MOk M_X12_layWords := ⟨plainFor_of_name (by decide), tw1753, tw149, by decide, by decide⟩
theorem np_X12_layWords : (parseMethodDescriptor (mY M_X12_layWords).desc).map (fun d => d.parameters.length) = some 0 := by decide +kernel
theorem mk_X12_archive : MOk M_X12_archive := ⟨plainFor_of_name (by decide), tw1649, tw149, by decide, by decide⟩
theorem np_X12_archive : (parseMethodDescriptor (mY M_X12_archive).desc).map (fun d => d.parameters.length) = some 2 := by decide +kernel
theorem mk_X0_dateOf : MOk M_X0_dateOf := ⟨plainFor_of_name (by decide), tw958, tw141, by decide, by decide⟩
theorem np_X0_dateOf : (parseMethodDescriptor (mY M_X0_dateOf).desc).map (fun d => d.parameters.length) = some 2 := by decide +kernel
theorem mk_X2_fresh : MOk M_X2_fresh := ⟨plainFor_of_name (by decide), tw962, tw146, by decide, by decide⟩
theorem np_X2_fresh : (parseMethodDescriptor (mY M_X2_fresh).desc).map (fun d => d.parameters.length) = some 3 := by decide +kernel
theorem mk_X2_inBoth : MOk M_X2_inBoth := ⟨plainFor_of_name (by decide), tw970, tw146, by decide, by decide⟩
theorem np_X2_inBoth : (parseMethodDescriptor (mY M_X2_inBoth).desc).map (fun d => d.parameters.length) = some 4 := by decide +kernel
theorem mk_X2_lost : MOk M_X2_lost := ⟨plainFor_of_name (by decide), tw966, tw146, by decide, by decide⟩
theorem np_X2_lost : (parseMethodDescriptor (mY M_X2_lost).desc).map (fun d => d.parameters.length) = some 3 := by decide +kernel
theorem mk_X2_turned : MOk M_X2_turned := ⟨plainFor_of_name (by decide), tw974, tw146, by decide, by decide⟩
theorem np_X2_turned : (parseMethodDescriptor (mY M_X2_turned).desc).map (fun d => d.parameters.length) = some 3 := by decide +kernel
theorem mk_X2_oldest : MOk M_X2_oldest := ⟨plainFor_of_name (by decide), tw978, tw146, by decide, by decide⟩
theorem np_X2_oldest : (parseMethodDescriptor (mY M_X2_oldest).desc).map (fun d => d.parameters.length) = some 3 := by decide +kernel
theorem mk_X0_hasPlace : MOk M_X0_hasPlace := ⟨plainFor_of_name (by decide), tw987, tw141, by decide, by decide⟩
theorem np_X0_hasPlace : (parseMethodDescriptor (mY M_X0_hasPlace).desc).map (fun d => d.parameters.length) = some 3 := by decide +kernel
theorem mk_X5_wordNumber : MOk M_X5_wordNumber := ⟨plainFor_of_name (by decide), tw992, tw150, by decide, by decide⟩
theorem np_X5_wordNumber : (parseMethodDescriptor (mY M_X5_wordNumber).desc).map (fun d => d.parameters.length) = some 1 := by decide +kernel
theorem mk_X0_wordNumberAt : MOk M_X0_wordNumberAt := ⟨plainFor_of_name (by decide), tw983, tw141, by decide, by decide⟩
theorem np_X0_wordNumberAt : (parseMethodDescriptor (mY M_X0_wordNumberAt).desc).map (fun d => d.parameters.length) = some 3 := by decide +kernel
theorem mk_X11_version : MOk M_X11_version := ⟨plainFor_of_name (by decide), tw952, tw138, by decide, by decide⟩
theorem np_X11_version : (parseMethodDescriptor (mY M_X11_version).desc).map (fun d => d.parameters.length) = some 4 := by decide +kernel
theorem mk_X12_fresh : MOk M_X12_fresh := ⟨plainFor_of_name (by decide), tw1764, tw149, by decide, by decide⟩
theorem np_X12_fresh : (parseMethodDescriptor (mY M_X12_fresh).desc).map (fun d => d.parameters.length) = some 2 := by decide +kernel
theorem mk_X12_lost : MOk M_X12_lost := ⟨plainFor_of_name (by decide), tw1768, tw149, by decide, by decide⟩
theorem np_X12_lost : (parseMethodDescriptor (mY M_X12_lost).desc).map (fun d => d.parameters.length) = some 2 := by decide +kernel
theorem mk_X12_turned : MOk M_X12_turned := ⟨plainFor_of_name (by decide), tw1772, tw149, by decide, by decide⟩
theorem np_X12_turned : (parseMethodDescriptor (mY M_X12_turned).desc).map (fun d => d.parameters.length) = some 2 := by decide +kernel
theorem mk_X12_oldest : MOk M_X12_oldest := ⟨plainFor_of_name (by decide), tw1776, tw149, by decide, by decide⟩
theorem np_X12_oldest : (parseMethodDescriptor (mY M_X12_oldest).desc).map (fun d => d.parameters.length) = some 2 := by decide +kernel
theorem mk_X12_version : MOk M_X12_version := ⟨plainFor_of_name (by decide), tw1760, tw149, by decide, by decide⟩
theorem np_X12_version : (parseMethodDescriptor (mY M_X12_version).desc).map (fun d => d.parameters.length) = some 4 := by decide +kernel
theorem mk_X5_lastBit : MOk M_X5_lastBit := ⟨plainFor_of_name (by decide), tw1003, tw150, by decide, by decide⟩
theorem np_X5_lastBit : (parseMethodDescriptor (mY M_X5_lastBit).desc).map (fun d => d.parameters.length) = some 1 := by decide +kernel
theorem mk_X11_life : MOk M_X11_life := ⟨plainFor_of_name (by decide), tw996, tw138, by decide, by decide⟩
theorem np_X11_life : (parseMethodDescriptor (mY M_X11_life).desc).map (fun d => d.parameters.length) = some 5 := by decide +kernel
theorem mk_X12_firstIn : MOk M_X12_firstIn := ⟨plainFor_of_name (by decide), tw1783, tw149, by decide, by decide⟩
theorem np_X12_firstIn : (parseMethodDescriptor (mY M_X12_firstIn).desc).map (fun d => d.parameters.length) = some 1 := by decide +kernel
theorem mk_X12_lastIn : MOk M_X12_lastIn := ⟨plainFor_of_name (by decide), tw1786, tw149, by decide, by decide⟩
theorem np_X12_lastIn : (parseMethodDescriptor (mY M_X12_lastIn).desc).map (fun d => d.parameters.length) = some 1 := by decide +kernel
theorem mk_X12_life : MOk M_X12_life := ⟨plainFor_of_name (by decide), tw1780, tw149, by decide, by decide⟩
theorem np_X12_life : (parseMethodDescriptor (mY M_X12_life).desc).map (fun d => d.parameters.length) = some 5 := by decide +kernel
theorem mk_X0_hasWord : MOk M_X0_hasWord := ⟨plainFor_of_name (by decide), tw1014, tw141, by decide, by decide⟩
theorem np_X0_hasWord : (parseMethodDescriptor (mY M_X0_hasWord).desc).map (fun d => d.parameters.length) = some 1 := by decide +kernel
theorem mk_X0_slotsOfWord : MOk M_X0_slotsOfWord := ⟨plainFor_of_name (by decide), tw1020, tw141, by decide, by decide⟩
theorem np_X0_slotsOfWord : (parseMethodDescriptor (mY M_X0_slotsOfWord).desc).map (fun d => d.parameters.length) = some 1 := by decide +kernel
theorem mk_J13_bitCount_95d88 : MOk M_J13_bitCount_95d88 := ⟨plainFor_of_name (by decide), tw1023, tw158, by decide, by decide⟩
theorem np_J13_bitCount_95d88 : (parseMethodDescriptor (mY M_J13_bitCount_95d88).desc).map (fun d => d.parameters.length) = some 1 := by decide +kernel
theorem mk_X2_documentsOfWord : MOk M_X2_documentsOfWord := ⟨plainFor_of_name (by decide), tw1030, tw146, by decide, by decide⟩
theorem np_X2_documentsOfWord : (parseMethodDescriptor (mY M_X2_documentsOfWord).desc).map (fun d => d.parameters.length) = some 2 := by decide +kernel
theorem mk_X2_firstDateOfWord : MOk M_X2_firstDateOfWord := ⟨plainFor_of_name (by decide), tw1035, tw146, by decide, by decide⟩
theorem np_X2_firstDateOfWord : (parseMethodDescriptor (mY M_X2_firstDateOfWord).desc).map (fun d => d.parameters.length) = some 2 := by decide +kernel
theorem mk_X2_timesIn : MOk M_X2_timesIn := ⟨plainFor_of_name (by decide), tw1044, tw146, by decide, by decide⟩
theorem np_X2_timesIn : (parseMethodDescriptor (mY M_X2_timesIn).desc).map (fun d => d.parameters.length) = some 4 := by decide +kernel
theorem mk_X2_spread : MOk M_X2_spread := ⟨plainFor_of_name (by decide), tw1040, tw146, by decide, by decide⟩
theorem np_X2_spread : (parseMethodDescriptor (mY M_X2_spread).desc).map (fun d => d.parameters.length) = some 2 := by decide +kernel
theorem mk_X11_word : MOk M_X11_word := ⟨plainFor_of_name (by decide), tw1010, tw138, by decide, by decide⟩
theorem np_X11_word : (parseMethodDescriptor (mY M_X11_word).desc).map (fun d => d.parameters.length) = some 3 := by decide +kernel
theorem mk_X12_timesIn : MOk M_X12_timesIn := ⟨plainFor_of_name (by decide), tw1799, tw149, by decide, by decide⟩
theorem np_X12_timesIn : (parseMethodDescriptor (mY M_X12_timesIn).desc).map (fun d => d.parameters.length) = some 3 := by decide +kernel
theorem mk_X12_ofWord : MOk M_X12_ofWord := ⟨plainFor_of_name (by decide), tw1794, tw149, by decide, by decide⟩
theorem np_X12_ofWord : (parseMethodDescriptor (mY M_X12_ofWord).desc).map (fun d => d.parameters.length) = some 2 := by decide +kernel
theorem mk_X12_word : MOk M_X12_word := ⟨plainFor_of_name (by decide), tw1790, tw149, by decide, by decide⟩
theorem np_X12_word : (parseMethodDescriptor (mY M_X12_word).desc).map (fun d => d.parameters.length) = some 3 := by decide +kernel
theorem mk_X2_documentOfDate : MOk M_X2_documentOfDate := ⟨plainFor_of_name (by decide), tw1052, tw146, by decide, by decide⟩
theorem np_X2_documentOfDate : (parseMethodDescriptor (mY M_X2_documentOfDate).desc).map (fun d => d.parameters.length) = some 2 := by decide +kernel
theorem mk_X11_dated : MOk M_X11_dated := ⟨plainFor_of_name (by decide), tw1048, tw138, by decide, by decide⟩
theorem np_X11_dated : (parseMethodDescriptor (mY M_X11_dated).desc).map (fun d => d.parameters.length) = some 2 := by decide +kernel
theorem mk_X12_dated : MOk M_X12_dated := ⟨plainFor_of_name (by decide), tw1803, tw149, by decide, by decide⟩
theorem np_X12_dated : (parseMethodDescriptor (mY M_X12_dated).desc).map (fun d => d.parameters.length) = some 2 := by decide +kernel
theorem mk_X11_shared : MOk M_X11_shared := ⟨plainFor_of_name (by decide), tw1057, tw138, by decide, by decide⟩
theorem np_X11_shared : (parseMethodDescriptor (mY M_X11_shared).desc).map (fun d => d.parameters.length) = some 4 := by decide +kernel
theorem mk_X12_shared : MOk M_X12_shared := ⟨plainFor_of_name (by decide), tw1807, tw149, by decide, by decide⟩
theorem np_X12_shared : (parseMethodDescriptor (mY M_X12_shared).desc).map (fun d => d.parameters.length) = some 4 := by decide +kernel
theorem mk_X2_longestRow : MOk M_X2_longestRow := ⟨plainFor_of_name (by decide), tw1066, tw146, by decide, by decide⟩
theorem np_X2_longestRow : (parseMethodDescriptor (mY M_X2_longestRow).desc).map (fun d => d.parameters.length) = some 5 := by decide +kernel
theorem mk_X11_common : MOk M_X11_common := ⟨plainFor_of_name (by decide), tw1062, tw138, by decide, by decide⟩
theorem np_X11_common : (parseMethodDescriptor (mY M_X11_common).desc).map (fun d => d.parameters.length) = some 5 := by decide +kernel
theorem mk_X12_common : MOk M_X12_common := ⟨plainFor_of_name (by decide), tw1811, tw149, by decide, by decide⟩
theorem np_X12_common : (parseMethodDescriptor (mY M_X12_common).desc).map (fun d => d.parameters.length) = some 5 := by decide +kernel
theorem mk_X9_questionsAt : MOk M_X9_questionsAt := ⟨plainFor_of_name (by decide), tw1075, tw139, by decide, by decide⟩
theorem np_X9_questionsAt : (parseMethodDescriptor (mY M_X9_questionsAt).desc).map (fun d => d.parameters.length) = some 1 := by decide +kernel
theorem mk_X6_has : MOk M_X6_has := ⟨plainFor_of_name (by decide), tw1079, tw142, by decide, by decide⟩
theorem np_X6_has : (parseMethodDescriptor (mY M_X6_has).desc).map (fun d => d.parameters.length) = some 1 := by decide +kernel
theorem mk_X6_kindOf : MOk M_X6_kindOf := ⟨plainFor_of_name (by decide), tw1083, tw142, by decide, by decide⟩
theorem np_X6_kindOf : (parseMethodDescriptor (mY M_X6_kindOf).desc).map (fun d => d.parameters.length) = some 1 := by decide +kernel
theorem mk_X6_numberOf : MOk M_X6_numberOf := ⟨plainFor_of_name (by decide), tw1087, tw142, by decide, by decide⟩
theorem np_X6_numberOf : (parseMethodDescriptor (mY M_X6_numberOf).desc).map (fun d => d.parameters.length) = some 2 := by decide +kernel
theorem mk_X6_wordOf : MOk M_X6_wordOf := ⟨plainFor_of_name (by decide), tw1092, tw142, by decide, by decide⟩
theorem np_X6_wordOf : (parseMethodDescriptor (mY M_X6_wordOf).desc).map (fun d => d.parameters.length) = some 2 := by decide +kernel
theorem mk_X11_question : MOk M_X11_question := ⟨plainFor_of_name (by decide), tw1071, tw138, by decide, by decide⟩
theorem np_X11_question : (parseMethodDescriptor (mY M_X11_question).desc).map (fun d => d.parameters.length) = some 3 := by decide +kernel
theorem mk_X12_hasAsking : MOk M_X12_hasAsking := ⟨plainFor_of_name (by decide), tw1819, tw149, by decide, by decide⟩
theorem np_X12_hasAsking : (parseMethodDescriptor (mY M_X12_hasAsking).desc).map (fun d => d.parameters.length) = some 1 := by decide +kernel
theorem mk_X12_askedMany : MOk M_X12_askedMany := ⟨plainFor_of_name (by decide), tw1823, tw149, by decide, by decide⟩
theorem np_X12_askedMany : (parseMethodDescriptor (mY M_X12_askedMany).desc).map (fun d => d.parameters.length) = some 0 := by decide +kernel
theorem mk_X12_ofAsking : MOk M_X12_ofAsking := ⟨plainFor_of_name (by decide), tw1831, tw149, by decide, by decide⟩
theorem np_X12_ofAsking : (parseMethodDescriptor (mY M_X12_ofAsking).desc).map (fun d => d.parameters.length) = some 2 := by decide +kernel
theorem mk_X12_wordsOf : MOk M_X12_wordsOf := ⟨plainFor_of_name (by decide), tw1827, tw149, by decide, by decide⟩
theorem np_X12_wordsOf : (parseMethodDescriptor (mY M_X12_wordsOf).desc).map (fun d => d.parameters.length) = some 1 := by decide +kernel
theorem mk_X12_question : MOk M_X12_question := ⟨plainFor_of_name (by decide), tw1815, tw149, by decide, by decide⟩
theorem np_X12_question : (parseMethodDescriptor (mY M_X12_question).desc).map (fun d => d.parameters.length) = some 3 := by decide +kernel
theorem mk_X8_held : MOk M_X8_held := ⟨plainFor_of_name (by decide), tw1109, tw147, by decide, by decide⟩
theorem np_X8_held : (parseMethodDescriptor (mY M_X8_held).desc).map (fun d => d.parameters.length) = some 2 := by decide +kernel
theorem mk_X8_beginnings : MOk M_X8_beginnings := ⟨plainFor_of_name (by decide), tw1121, tw147, by decide, by decide⟩
theorem np_X8_beginnings : (parseMethodDescriptor (mY M_X8_beginnings).desc).map (fun d => d.parameters.length) = some 5 := by decide +kernel
theorem mk_J9_abs_0f7a4 : MOk M_J9_abs_0f7a4 := ⟨by decide +kernel, tw1132, tw155, by decide, by decide⟩
theorem np_J9_abs_0f7a4 : (parseMethodDescriptor (mY M_J9_abs_0f7a4).desc).map (fun d => d.parameters.length) = some 1 := by decide +kernel
theorem mk_X8_areNear : MOk M_X8_areNear := ⟨plainFor_of_name (by decide), tw1129, tw147, by decide, by decide⟩
theorem np_X8_areNear : (parseMethodDescriptor (mY M_X8_areNear).desc).map (fun d => d.parameters.length) = some 5 := by decide +kernel
theorem mk_X8_areMany : MOk M_X8_areMany := ⟨plainFor_of_name (by decide), tw1136, tw147, by decide, by decide⟩
theorem np_X8_areMany : (parseMethodDescriptor (mY M_X8_areMany).desc).map (fun d => d.parameters.length) = some 5 := by decide +kernel
theorem mk_X8_lookAtWords : MOk M_X8_lookAtWords := ⟨plainFor_of_name (by decide), tw1116, tw147, by decide, by decide⟩
theorem np_X8_lookAtWords : (parseMethodDescriptor (mY M_X8_lookAtWords).desc).map (fun d => d.parameters.length) = some 4 := by decide +kernel
theorem mk_X8_lookIn : MOk M_X8_lookIn := ⟨plainFor_of_name (by decide), tw1104, tw147, by decide, by decide⟩
theorem np_X8_lookIn : (parseMethodDescriptor (mY M_X8_lookIn).desc).map (fun d => d.parameters.length) = some 4 := by decide +kernel
theorem mk_X8_look : MOk M_X8_look := ⟨plainFor_of_name (by decide), tw1100, tw147, by decide, by decide⟩
theorem np_X8_look : (parseMethodDescriptor (mY M_X8_look).desc).map (fun d => d.parameters.length) = some 3 := by decide +kernel
theorem mk_X11_holds : MOk M_X11_holds := ⟨plainFor_of_name (by decide), tw1096, tw138, by decide, by decide⟩
theorem np_X11_holds : (parseMethodDescriptor (mY M_X11_holds).desc).map (fun d => d.parameters.length) = some 5 := by decide +kernel
theorem mk_X12_beginsAt : MOk M_X12_beginsAt := ⟨plainFor_of_name (by decide), tw1851, tw149, by decide, by decide⟩
theorem np_X12_beginsAt : (parseMethodDescriptor (mY M_X12_beginsAt).desc).map (fun d => d.parameters.length) = some 4 := by decide +kernel
theorem mk_X12_timesOf : MOk M_X12_timesOf := ⟨plainFor_of_name (by decide), tw1847, tw149, by decide, by decide⟩
theorem np_X12_timesOf : (parseMethodDescriptor (mY M_X12_timesOf).desc).map (fun d => d.parameters.length) = some 3 := by decide +kernel
theorem mk_X12_areNear : MOk M_X12_areNear := ⟨plainFor_of_name (by decide), tw1855, tw149, by decide, by decide⟩
theorem np_X12_areNear : (parseMethodDescriptor (mY M_X12_areNear).desc).map (fun d => d.parameters.length) = some 3 := by decide +kernel
theorem mk_X12_holdsBy : MOk M_X12_holdsBy := ⟨plainFor_of_name (by decide), tw1843, tw149, by decide, by decide⟩
theorem np_X12_holdsBy : (parseMethodDescriptor (mY M_X12_holdsBy).desc).map (fun d => d.parameters.length) = some 3 := by decide +kernel
theorem mk_X12_layHeld : MOk M_X12_layHeld := ⟨plainFor_of_name (by decide), tw1839, tw149, by decide, by decide⟩
theorem np_X12_layHeld : (parseMethodDescriptor (mY M_X12_layHeld).desc).map (fun d => d.parameters.length) = some 2 := by decide +kernel
theorem mk_X12_isAsking : MOk M_X12_isAsking := ⟨plainFor_of_name (by decide), tw1859, tw149, by decide, by decide⟩
theorem np_X12_isAsking : (parseMethodDescriptor (mY M_X12_isAsking).desc).map (fun d => d.parameters.length) = some 1 := by decide +kernel
theorem mk_X12_holds : MOk M_X12_holds := ⟨plainFor_of_name (by decide), tw1835, tw149, by decide, by decide⟩
theorem np_X12_holds : (parseMethodDescriptor (mY M_X12_holds).desc).map (fun d => d.parameters.length) = some 5 := by decide +kernel
theorem mk_X5_runAt : MOk M_X5_runAt := ⟨plainFor_of_name (by decide), tw1147, tw150, by decide, by decide⟩
theorem np_X5_runAt : (parseMethodDescriptor (mY M_X5_runAt).desc).map (fun d => d.parameters.length) = some 2 := by decide +kernel
theorem mk_X11_spans : MOk M_X11_spans := ⟨plainFor_of_name (by decide), tw1144, tw138, by decide, by decide⟩
theorem np_X11_spans : (parseMethodDescriptor (mY M_X11_spans).desc).map (fun d => d.parameters.length) = some 6 := by decide +kernel
theorem mk_X12_spans : MOk M_X12_spans := ⟨plainFor_of_name (by decide), tw1863, tw149, by decide, by decide⟩
theorem np_X12_spans : (parseMethodDescriptor (mY M_X12_spans).desc).map (fun d => d.parameters.length) = some 6 := by decide +kernel
theorem mk_X11_times : MOk M_X11_times := ⟨plainFor_of_name (by decide), tw1151, tw138, by decide, by decide⟩
theorem np_X11_times : (parseMethodDescriptor (mY M_X11_times).desc).map (fun d => d.parameters.length) = some 5 := by decide +kernel
theorem mk_X12_times : MOk M_X12_times := ⟨plainFor_of_name (by decide), tw1867, tw149, by decide, by decide⟩
theorem np_X12_times : (parseMethodDescriptor (mY M_X12_times).desc).map (fun d => d.parameters.length) = some 5 := by decide +kernel
theorem mk_X8_everIn : MOk M_X8_everIn := ⟨plainFor_of_name (by decide), tw1160, tw147, by decide, by decide⟩
theorem np_X8_everIn : (parseMethodDescriptor (mY M_X8_everIn).desc).map (fun d => d.parameters.length) = some 2 := by decide +kernel
theorem mk_X8_alwaysIn : MOk M_X8_alwaysIn := ⟨plainFor_of_name (by decide), tw1164, tw147, by decide, by decide⟩
theorem np_X8_alwaysIn : (parseMethodDescriptor (mY M_X8_alwaysIn).desc).map (fun d => d.parameters.length) = some 2 := by decide +kernel
theorem mk_X8_asOf : MOk M_X8_asOf := ⟨plainFor_of_name (by decide), tw1177, tw147, by decide, by decide⟩
theorem np_X8_asOf : (parseMethodDescriptor (mY M_X8_asOf).desc).map (fun d => d.parameters.length) = some 3 := by decide +kernel
theorem mk_X8_isChange : MOk M_X8_isChange := ⟨plainFor_of_name (by decide), tw1173, tw147, by decide, by decide⟩
theorem np_X8_isChange : (parseMethodDescriptor (mY M_X8_isChange).desc).map (fun d => d.parameters.length) = some 3 := by decide +kernel
theorem mk_X8_changes : MOk M_X8_changes := ⟨plainFor_of_name (by decide), tw1168, tw147, by decide, by decide⟩
theorem np_X8_changes : (parseMethodDescriptor (mY M_X8_changes).desc).map (fun d => d.parameters.length) = some 2 := by decide +kernel
theorem mk_X8_versionsHeld : MOk M_X8_versionsHeld := ⟨plainFor_of_name (by decide), tw1183, tw147, by decide, by decide⟩
theorem np_X8_versionsHeld : (parseMethodDescriptor (mY M_X8_versionsHeld).desc).map (fun d => d.parameters.length) = some 2 := by decide +kernel
theorem mk_X8_latestHeld : MOk M_X8_latestHeld := ⟨plainFor_of_name (by decide), tw1200, tw147, by decide, by decide⟩
theorem np_X8_latestHeld : (parseMethodDescriptor (mY M_X8_latestHeld).desc).map (fun d => d.parameters.length) = some 3 := by decide +kernel
theorem mk_X8_isAhead : MOk M_X8_isAhead := ⟨plainFor_of_name (by decide), tw1196, tw147, by decide, by decide⟩
theorem np_X8_isAhead : (parseMethodDescriptor (mY M_X8_isAhead).desc).map (fun d => d.parameters.length) = some 4 := by decide +kernel
theorem mk_X8_ranked : MOk M_X8_ranked := ⟨plainFor_of_name (by decide), tw1192, tw147, by decide, by decide⟩
theorem np_X8_ranked : (parseMethodDescriptor (mY M_X8_ranked).desc).map (fun d => d.parameters.length) = some 3 := by decide +kernel
theorem mk_X8_changeAt : MOk M_X8_changeAt := ⟨plainFor_of_name (by decide), tw1205, tw147, by decide, by decide⟩
theorem np_X8_changeAt : (parseMethodDescriptor (mY M_X8_changeAt).desc).map (fun d => d.parameters.length) = some 3 := by decide +kernel
theorem mk_X11_foundAt : MOk M_X11_foundAt := ⟨plainFor_of_name (by decide), tw1188, tw138, by decide, by decide⟩
theorem np_X11_foundAt : (parseMethodDescriptor (mY M_X11_foundAt).desc).map (fun d => d.parameters.length) = some 3 := by decide +kernel
theorem mk_X11_found : MOk M_X11_found := ⟨plainFor_of_name (by decide), tw1156, tw138, by decide, by decide⟩
theorem np_X11_found : (parseMethodDescriptor (mY M_X11_found).desc).map (fun d => d.parameters.length) = some 4 := by decide +kernel
theorem mk_X12_asOf : MOk M_X12_asOf := ⟨plainFor_of_name (by decide), tw1875, tw149, by decide, by decide⟩
theorem np_X12_asOf : (parseMethodDescriptor (mY M_X12_asOf).desc).map (fun d => d.parameters.length) = some 2 := by decide +kernel
theorem mk_X12_changes : MOk M_X12_changes := ⟨plainFor_of_name (by decide), tw1879, tw149, by decide, by decide⟩
theorem np_X12_changes : (parseMethodDescriptor (mY M_X12_changes).desc).map (fun d => d.parameters.length) = some 2 := by decide +kernel
theorem mk_X12_rankOf : MOk M_X12_rankOf := ⟨plainFor_of_name (by decide), tw1887, tw149, by decide, by decide⟩
theorem np_X12_rankOf : (parseMethodDescriptor (mY M_X12_rankOf).desc).map (fun d => d.parameters.length) = some 2 := by decide +kernel
theorem mk_X12_rank : MOk M_X12_rank := ⟨plainFor_of_name (by decide), tw1883, tw149, by decide, by decide⟩
theorem np_X12_rank : (parseMethodDescriptor (mY M_X12_rank).desc).map (fun d => d.parameters.length) = some 2 := by decide +kernel
theorem mk_X12_docsBy : MOk M_X12_docsBy := ⟨plainFor_of_name (by decide), tw1891, tw149, by decide, by decide⟩
theorem np_X12_docsBy : (parseMethodDescriptor (mY M_X12_docsBy).desc).map (fun d => d.parameters.length) = some 2 := by decide +kernel
theorem mk_X12_versionsBy : MOk M_X12_versionsBy := ⟨plainFor_of_name (by decide), tw1895, tw149, by decide, by decide⟩
theorem np_X12_versionsBy : (parseMethodDescriptor (mY M_X12_versionsBy).desc).map (fun d => d.parameters.length) = some 1 := by decide +kernel
theorem mk_X12_found : MOk M_X12_found := ⟨plainFor_of_name (by decide), tw1871, tw149, by decide, by decide⟩
theorem np_X12_found : (parseMethodDescriptor (mY M_X12_found).desc).map (fun d => d.parameters.length) = some 4 := by decide +kernel
theorem mk_X8_heldMost : MOk M_X8_heldMost := ⟨plainFor_of_name (by decide), tw1213, tw147, by decide, by decide⟩
theorem np_X8_heldMost : (parseMethodDescriptor (mY M_X8_heldMost).desc).map (fun d => d.parameters.length) = some 2 := by decide +kernel
theorem mk_X8_within : MOk M_X8_within := ⟨plainFor_of_name (by decide), tw1222, tw147, by decide, by decide⟩
theorem np_X8_within : (parseMethodDescriptor (mY M_X8_within).desc).map (fun d => d.parameters.length) = some 3 := by decide +kernel
theorem mk_X8_sameCouples : MOk M_X8_sameCouples := ⟨plainFor_of_name (by decide), tw1218, tw147, by decide, by decide⟩
theorem np_X8_sameCouples : (parseMethodDescriptor (mY M_X8_sameCouples).desc).map (fun d => d.parameters.length) = some 2 := by decide +kernel
theorem mk_X11_best : MOk M_X11_best := ⟨plainFor_of_name (by decide), tw1209, tw138, by decide, by decide⟩
theorem np_X11_best : (parseMethodDescriptor (mY M_X11_best).desc).map (fun d => d.parameters.length) = some 3 := by decide +kernel
theorem mk_X12_bestAsking : MOk M_X12_bestAsking := ⟨plainFor_of_name (by decide), tw1903, tw149, by decide, by decide⟩
theorem np_X12_bestAsking : (parseMethodDescriptor (mY M_X12_bestAsking).desc).map (fun d => d.parameters.length) = some 0 := by decide +kernel
theorem mk_X12_isWithin : MOk M_X12_isWithin := ⟨plainFor_of_name (by decide), tw1911, tw149, by decide, by decide⟩
theorem np_X12_isWithin : (parseMethodDescriptor (mY M_X12_isWithin).desc).map (fun d => d.parameters.length) = some 2 := by decide +kernel
theorem mk_X12_samePairs : MOk M_X12_samePairs := ⟨plainFor_of_name (by decide), tw1907, tw149, by decide, by decide⟩
theorem np_X12_samePairs : (parseMethodDescriptor (mY M_X12_samePairs).desc).map (fun d => d.parameters.length) = some 0 := by decide +kernel
theorem mk_X12_best : MOk M_X12_best := ⟨plainFor_of_name (by decide), tw1899, tw149, by decide, by decide⟩
theorem np_X12_best : (parseMethodDescriptor (mY M_X12_best).desc).map (fun d => d.parameters.length) = some 3 := by decide +kernel
theorem mk_X11_implies : MOk M_X11_implies := ⟨plainFor_of_name (by decide), tw1226, tw138, by decide, by decide⟩
theorem np_X11_implies : (parseMethodDescriptor (mY M_X11_implies).desc).map (fun d => d.parameters.length) = some 4 := by decide +kernel
theorem mk_X12_implies : MOk M_X12_implies := ⟨plainFor_of_name (by decide), tw1915, tw149, by decide, by decide⟩
theorem np_X12_implies : (parseMethodDescriptor (mY M_X12_implies).desc).map (fun d => d.parameters.length) = some 4 := by decide +kernel
theorem mk_X9_huntAt : MOk M_X9_huntAt := ⟨plainFor_of_name (by decide), tw1236, tw139, by decide, by decide⟩
theorem np_X9_huntAt : (parseMethodDescriptor (mY M_X9_huntAt).desc).map (fun d => d.parameters.length) = some 1 := by decide +kernel
theorem mk_X3_has : MOk M_X3_has := ⟨plainFor_of_name (by decide), tw1240, tw143, by decide, by decide⟩
theorem np_X3_has : (parseMethodDescriptor (mY M_X3_has).desc).map (fun d => d.parameters.length) = some 1 := by decide +kernel
theorem mk_X3_partOf : MOk M_X3_partOf := ⟨plainFor_of_name (by decide), tw1244, tw143, by decide, by decide⟩
theorem np_X3_partOf : (parseMethodDescriptor (mY M_X3_partOf).desc).map (fun d => d.parameters.length) = some 2 := by decide +kernel
theorem mk_X11_fact : MOk M_X11_fact := ⟨plainFor_of_name (by decide), tw1232, tw138, by decide, by decide⟩
theorem np_X11_fact : (parseMethodDescriptor (mY M_X11_fact).desc).map (fun d => d.parameters.length) = some 3 := by decide +kernel
theorem mk_X12_hasHunt : MOk M_X12_hasHunt := ⟨plainFor_of_name (by decide), tw1923, tw149, by decide, by decide⟩
theorem np_X12_hasHunt : (parseMethodDescriptor (mY M_X12_hasHunt).desc).map (fun d => d.parameters.length) = some 1 := by decide +kernel
theorem mk_X12_facts : MOk M_X12_facts := ⟨plainFor_of_name (by decide), tw1927, tw149, by decide, by decide⟩
theorem np_X12_facts : (parseMethodDescriptor (mY M_X12_facts).desc).map (fun d => d.parameters.length) = some 0 := by decide +kernel
theorem mk_X12_factOf : MOk M_X12_factOf := ⟨plainFor_of_name (by decide), tw1931, tw149, by decide, by decide⟩
theorem np_X12_factOf : (parseMethodDescriptor (mY M_X12_factOf).desc).map (fun d => d.parameters.length) = some 2 := by decide +kernel
theorem mk_X12_fact : MOk M_X12_fact := ⟨plainFor_of_name (by decide), tw1919, tw149, by decide, by decide⟩
theorem np_X12_fact : (parseMethodDescriptor (mY M_X12_fact).desc).map (fun d => d.parameters.length) = some 3 := by decide +kernel
theorem mk_X3_slotsTold : MOk M_X3_slotsTold := ⟨plainFor_of_name (by decide), tw1257, tw143, by decide, by decide⟩
theorem np_X3_slotsTold : (parseMethodDescriptor (mY M_X3_slotsTold).desc).map (fun d => d.parameters.length) = some 1 := by decide +kernel
theorem mk_X3_keepsTo : MOk M_X3_keepsTo := ⟨plainFor_of_name (by decide), tw1263, tw143, by decide, by decide⟩
theorem np_X3_keepsTo : (parseMethodDescriptor (mY M_X3_keepsTo).desc).map (fun d => d.parameters.length) = some 3 := by decide +kernel
theorem mk_X3_fitting : MOk M_X3_fitting := ⟨plainFor_of_name (by decide), tw1253, tw143, by decide, by decide⟩
theorem np_X3_fitting : (parseMethodDescriptor (mY M_X3_fitting).desc).map (fun d => d.parameters.length) = some 1 := by decide +kernel
theorem mk_X5_firstLetter : MOk M_X5_firstLetter := ⟨plainFor_of_name (by decide), tw1271, tw150, by decide, by decide⟩
theorem np_X5_firstLetter : (parseMethodDescriptor (mY M_X5_firstLetter).desc).map (fun d => d.parameters.length) = some 1 := by decide +kernel
theorem mk_X3_sureLetter : MOk M_X3_sureLetter := ⟨plainFor_of_name (by decide), tw1267, tw143, by decide, by decide⟩
theorem np_X3_sureLetter : (parseMethodDescriptor (mY M_X3_sureLetter).desc).map (fun d => d.parameters.length) = some 1 := by decide +kernel
theorem mk_X3_fittingIn : MOk M_X3_fittingIn := ⟨plainFor_of_name (by decide), tw1281, tw143, by decide, by decide⟩
theorem np_X3_fittingIn : (parseMethodDescriptor (mY M_X3_fittingIn).desc).map (fun d => d.parameters.length) = some 2 := by decide +kernel
theorem mk_X3_askVersion : MOk M_X3_askVersion := ⟨plainFor_of_name (by decide), tw1275, tw143, by decide, by decide⟩
theorem np_X3_askVersion : (parseMethodDescriptor (mY M_X3_askVersion).desc).map (fun d => d.parameters.length) = some 1 := by decide +kernel
theorem mk_X3_fittingAt : MOk M_X3_fittingAt := ⟨plainFor_of_name (by decide), tw1286, tw143, by decide, by decide⟩
theorem np_X3_fittingAt : (parseMethodDescriptor (mY M_X3_fittingAt).desc).map (fun d => d.parameters.length) = some 2 := by decide +kernel
theorem mk_X11_fits : MOk M_X11_fits := ⟨plainFor_of_name (by decide), tw1249, tw138, by decide, by decide⟩
theorem np_X11_fits : (parseMethodDescriptor (mY M_X11_fits).desc).map (fun d => d.parameters.length) = some 3 := by decide +kernel
theorem mk_X12_isSo : MOk M_X12_isSo := ⟨plainFor_of_name (by decide), tw1943, tw149, by decide, by decide⟩
theorem np_X12_isSo : (parseMethodDescriptor (mY M_X12_isSo).desc).map (fun d => d.parameters.length) = some 1 := by decide +kernel
theorem mk_X12_noteFit : MOk M_X12_noteFit := ⟨plainFor_of_name (by decide), tw1947, tw149, by decide, by decide⟩
theorem np_X12_noteFit : (parseMethodDescriptor (mY M_X12_noteFit).desc).map (fun d => d.parameters.length) = some 2 := by decide +kernel
theorem mk_X12_findWords : MOk M_X12_findWords := ⟨plainFor_of_name (by decide), tw1939, tw149, by decide, by decide⟩
theorem np_X12_findWords : (parseMethodDescriptor (mY M_X12_findWords).desc).map (fun d => d.parameters.length) = some 1 := by decide +kernel
theorem mk_X12_sureLetter : MOk M_X12_sureLetter := ⟨plainFor_of_name (by decide), tw1951, tw149, by decide, by decide⟩
theorem np_X12_sureLetter : (parseMethodDescriptor (mY M_X12_sureLetter).desc).map (fun d => d.parameters.length) = some 0 := by decide +kernel
theorem mk_X12_askWhere : MOk M_X12_askWhere := ⟨plainFor_of_name (by decide), tw1955, tw149, by decide, by decide⟩
theorem np_X12_askWhere : (parseMethodDescriptor (mY M_X12_askWhere).desc).map (fun d => d.parameters.length) = some 0 := by decide +kernel
theorem mk_X12_fits : MOk M_X12_fits := ⟨plainFor_of_name (by decide), tw1935, tw149, by decide, by decide⟩
theorem np_X12_fits : (parseMethodDescriptor (mY M_X12_fits).desc).map (fun d => d.parameters.length) = some 3 := by decide +kernel
theorem mk_X1_below : MOk M_X1_below := ⟨plainFor_of_name (by decide), tw1300, tw148, by decide, by decide⟩
theorem np_X1_below : (parseMethodDescriptor (mY M_X1_below).desc).map (fun d => d.parameters.length) = some 1 := by decide +kernel
theorem mk_X1_mayGoOn : MOk M_X1_mayGoOn := ⟨plainFor_of_name (by decide), tw1314, tw148, by decide, by decide⟩
theorem np_X1_mayGoOn : (parseMethodDescriptor (mY M_X1_mayGoOn).desc).map (fun d => d.parameters.length) = some 1 := by decide +kernel
theorem mk_X1_cut : MOk M_X1_cut := ⟨plainFor_of_name (by decide), tw1310, tw148, by decide, by decide⟩
theorem np_X1_cut : (parseMethodDescriptor (mY M_X1_cut).desc).map (fun d => d.parameters.length) = some 1 := by decide +kernel
theorem mk_X0_firstTokenOf : MOk M_X0_firstTokenOf := ⟨plainFor_of_name (by decide), tw1320, tw141, by decide, by decide⟩
theorem np_X0_firstTokenOf : (parseMethodDescriptor (mY M_X0_firstTokenOf).desc).map (fun d => d.parameters.length) = some 1 := by decide +kernel
theorem mk_X1_put : MOk M_X1_put := ⟨plainFor_of_name (by decide), tw1324, tw148, by decide, by decide⟩
theorem np_X1_put : (parseMethodDescriptor (mY M_X1_put).desc).map (fun d => d.parameters.length) = some 1 := by decide +kernel
theorem mk_X1_move : MOk M_X1_move := ⟨plainFor_of_name (by decide), tw1331, tw148, by decide, by decide⟩
theorem np_X1_move : (parseMethodDescriptor (mY M_X1_move).desc).map (fun d => d.parameters.length) = some 1 := by decide +kernel
theorem mk_X1_back : MOk M_X1_back := ⟨plainFor_of_name (by decide), tw1336, tw148, by decide, by decide⟩
theorem np_X1_back : (parseMethodDescriptor (mY M_X1_back).desc).map (fun d => d.parameters.length) = some 1 := by decide +kernel
theorem mk_X1_deed : MOk M_X1_deed := ⟨plainFor_of_name (by decide), tw1305, tw148, by decide, by decide⟩
theorem np_X1_deed : (parseMethodDescriptor (mY M_X1_deed).desc).map (fun d => d.parameters.length) = some 2 := by decide +kernel
theorem mk_X1_goOn : MOk M_X1_goOn := ⟨plainFor_of_name (by decide), tw1295, tw148, by decide, by decide⟩
theorem np_X1_goOn : (parseMethodDescriptor (mY M_X1_goOn).desc).map (fun d => d.parameters.length) = some 3 := by decide +kernel
theorem mk_X0_tokensOf : MOk M_X0_tokensOf := ⟨plainFor_of_name (by decide), tw1341, tw141, by decide, by decide⟩
theorem np_X0_tokensOf : (parseMethodDescriptor (mY M_X0_tokensOf).desc).map (fun d => d.parameters.length) = some 1 := by decide +kernel
theorem mk_X11_drawn : MOk M_X11_drawn := ⟨plainFor_of_name (by decide), tw1291, tw138, by decide, by decide⟩
theorem np_X11_drawn : (parseMethodDescriptor (mY M_X11_drawn).desc).map (fun d => d.parameters.length) = some 5 := by decide +kernel
theorem mk_X12_draw : MOk M_X12_draw := ⟨plainFor_of_name (by decide), tw1967, tw149, by decide, by decide⟩
theorem np_X12_draw : (parseMethodDescriptor (mY M_X12_draw).desc).map (fun d => d.parameters.length) = some 1 := by decide +kernel
theorem mk_X12_firstToken : MOk M_X12_firstToken := ⟨plainFor_of_name (by decide), tw1972, tw149, by decide, by decide⟩
theorem np_X12_firstToken : (parseMethodDescriptor (mY M_X12_firstToken).desc).map (fun d => d.parameters.length) = some 1 := by decide +kernel
theorem mk_X12_makes : MOk M_X12_makes := ⟨plainFor_of_name (by decide), tw1976, tw149, by decide, by decide⟩
theorem np_X12_makes : (parseMethodDescriptor (mY M_X12_makes).desc).map (fun d => d.parameters.length) = some 1 := by decide +kernel
theorem mk_X12_drawChange : MOk M_X12_drawChange := ⟨plainFor_of_name (by decide), tw1963, tw149, by decide, by decide⟩
theorem np_X12_drawChange : (parseMethodDescriptor (mY M_X12_drawChange).desc).map (fun d => d.parameters.length) = some 0 := by decide +kernel
theorem mk_X12_tokensOf : MOk M_X12_tokensOf := ⟨plainFor_of_name (by decide), tw1980, tw149, by decide, by decide⟩
theorem np_X12_tokensOf : (parseMethodDescriptor (mY M_X12_tokensOf).desc).map (fun d => d.parameters.length) = some 1 := by decide +kernel
theorem mk_X12_drawn : MOk M_X12_drawn := ⟨plainFor_of_name (by decide), tw1959, tw149, by decide, by decide⟩
theorem np_X12_drawn : (parseMethodDescriptor (mY M_X12_drawn).desc).map (fun d => d.parameters.length) = some 5 := by decide +kernel
theorem mk_X11_count : MOk M_X11_count := ⟨plainFor_of_name (by decide), tw1345, tw138, by decide, by decide⟩
theorem np_X11_count : (parseMethodDescriptor (mY M_X11_count).desc).map (fun d => d.parameters.length) = some 1 := by decide +kernel
theorem mk_X12_count : MOk M_X12_count := ⟨plainFor_of_name (by decide), tw1984, tw149, by decide, by decide⟩
theorem np_X12_count : (parseMethodDescriptor (mY M_X12_count).desc).map (fun d => d.parameters.length) = some 1 := by decide +kernel
theorem mk_X10_copyFrom : MOk M_X10_copyFrom := ⟨plainFor_of_name (by decide), tw1359, tw140, by decide, by decide⟩
theorem np_X10_copyFrom : (parseMethodDescriptor (mY M_X10_copyFrom).desc).map (fun d => d.parameters.length) = some 1 := by decide +kernel
theorem mk_X9_copyFrom : MOk M_X9_copyFrom := ⟨plainFor_of_name (by decide), tw1355, tw139, by decide, by decide⟩
theorem np_X9_copyFrom : (parseMethodDescriptor (mY M_X9_copyFrom).desc).map (fun d => d.parameters.length) = some 1 := by decide +kernel
theorem mk_X11_image : MOk M_X11_image := ⟨plainFor_of_name (by decide), tw1351, tw138, by decide, by decide⟩
theorem np_X11_image : (parseMethodDescriptor (mY M_X11_image).desc).map (fun d => d.parameters.length) = some 1 := by decide +kernel
theorem mk_X12_copyRow : MOk M_X12_copyRow := ⟨plainFor_of_name (by decide), tw1995, tw149, by decide, by decide⟩
theorem np_X12_copyRow : (parseMethodDescriptor (mY M_X12_copyRow).desc).map (fun d => d.parameters.length) = some 4 := by decide +kernel
theorem mk_X12_copyAll : MOk M_X12_copyAll := ⟨plainFor_of_name (by decide), tw1992, tw149, by decide, by decide⟩
theorem np_X12_copyAll : (parseMethodDescriptor (mY M_X12_copyAll).desc).map (fun d => d.parameters.length) = some 2 := by decide +kernel
theorem mk_X12_image : MOk M_X12_image := ⟨plainFor_of_name (by decide), tw1988, tw149, by decide, by decide⟩
theorem np_X12_image : (parseMethodDescriptor (mY M_X12_image).desc).map (fun d => d.parameters.length) = some 1 := by decide +kernel
theorem mk_X11_again : MOk M_X11_again := ⟨plainFor_of_name (by decide), tw1366, tw138, by decide, by decide⟩
theorem np_X11_again : (parseMethodDescriptor (mY M_X11_again).desc).map (fun d => d.parameters.length) = some 1 := by decide +kernel
theorem mk_X12_again : MOk M_X12_again := ⟨plainFor_of_name (by decide), tw1999, tw149, by decide, by decide⟩
theorem np_X12_again : (parseMethodDescriptor (mY M_X12_again).desc).map (fun d => d.parameters.length) = some 1 := by decide +kernel
theorem sv_J0_charAt_5068e_492 : SiteV M_J0_charAt_5068e 492 M_J0_isLatin1_aae02 0 := ⟨tw586, tw587, tw588, np_J0_isLatin1_aae02, by decide, by decide⟩
theorem ss_J0_charAt_5068e_495 : SiteS M_J0_charAt_5068e 495 M_J1_charAt_3b067 2 := ⟨tw590, tw591, np_J1_charAt_3b067, by decide, by decide⟩
theorem ss_J0_checkIndex_df160_1059 : SiteS M_J0_checkIndex_df160 1059 M_J3_checkIndex_8e157 3 := ⟨tw598, tw599, np_J3_checkIndex_8e157, by decide, by decide⟩
theorem sv_J0_length_8abf5_335 : SiteV M_J0_length_8abf5 335 M_J0_coder_7d493 0 := ⟨tw576, tw577, tw578, np_J0_coder_7d493, by decide, by decide⟩
theorem ss_J1_charAt_3b067_9 : SiteS M_J1_charAt_3b067 9 M_J0_checkIndex_df160 2 := ⟨tw593, tw594, np_J0_checkIndex_df160, by decide, by decide⟩
theorem si_L_law_9 : SiteI M_L_law 9 M_X11_init 0 none := ⟨tw161, tw162, rfl, rfl, np_X11_init, by decide, by decide⟩
theorem si_L_law_12 : SiteI M_L_law 12 M_X12_init 0 none := ⟨tw1369, tw1370, rfl, rfl, np_X12_init, by decide, by decide⟩
theorem sv_L_law_13 : SiteV M_L_law 13 M_X11_feed 5 := ⟨tw465, tw466, tw467, np_X11_feed, by decide, by decide⟩
theorem sv_L_law_17 : SiteV M_L_law 17 M_X12_feed 5 := ⟨tw1486, tw1487, tw1488, np_X12_feed, by decide, by decide⟩
theorem sv_L_law_18 : SiteV M_L_law 18 M_X11_end 1 := ⟨tw477, tw478, tw479, np_X11_end, by decide, by decide⟩
theorem sv_L_law_22 : SiteV M_L_law 22 M_X12_end 1 := ⟨tw1494, tw1495, tw1496, np_X12_end, by decide, by decide⟩
theorem sv_L_law_23 : SiteV M_L_law 23 M_X11_text 2 := ⟨tw481, tw482, tw483, np_X11_text, by decide, by decide⟩
theorem sv_L_law_27 : SiteV M_L_law 27 M_X12_text 2 := ⟨tw1501, tw1502, tw1503, np_X12_text, by decide, by decide⟩
theorem sv_L_law_28 : SiteV M_L_law 28 M_X11_fault 1 := ⟨tw849, tw850, tw851, np_X11_fault, by decide, by decide⟩
theorem sv_L_law_31 : SiteV M_L_law 31 M_X12_fault 1 := ⟨tw1642, tw1643, tw1644, np_X12_fault, by decide, by decide⟩
theorem sv_L_law_32 : SiteV M_L_law 32 M_X11_archive 2 := ⟨tw853, tw854, tw855, np_X11_archive, by decide, by decide⟩
theorem sv_L_law_35 : SiteV M_L_law 35 M_X12_archive 2 := ⟨tw1646, tw1647, tw1648, np_X12_archive, by decide, by decide⟩
theorem sv_L_law_36 : SiteV M_L_law 36 M_X11_version 4 := ⟨tw949, tw950, tw951, np_X11_version, by decide, by decide⟩
theorem sv_L_law_40 : SiteV M_L_law 40 M_X12_version 4 := ⟨tw1757, tw1758, tw1759, np_X12_version, by decide, by decide⟩
theorem sv_L_law_41 : SiteV M_L_law 41 M_X11_life 5 := ⟨tw993, tw994, tw995, np_X11_life, by decide, by decide⟩
theorem sv_L_law_44 : SiteV M_L_law 44 M_X12_life 5 := ⟨tw1777, tw1778, tw1779, np_X12_life, by decide, by decide⟩
theorem sv_L_law_45 : SiteV M_L_law 45 M_X11_word 3 := ⟨tw1007, tw1008, tw1009, np_X11_word, by decide, by decide⟩
theorem sv_L_law_49 : SiteV M_L_law 49 M_X12_word 3 := ⟨tw1787, tw1788, tw1789, np_X12_word, by decide, by decide⟩
theorem sv_L_law_50 : SiteV M_L_law 50 M_X11_dated 2 := ⟨tw1045, tw1046, tw1047, np_X11_dated, by decide, by decide⟩
theorem sv_L_law_53 : SiteV M_L_law 53 M_X12_dated 2 := ⟨tw1800, tw1801, tw1802, np_X12_dated, by decide, by decide⟩
theorem sv_L_law_54 : SiteV M_L_law 54 M_X11_shared 4 := ⟨tw1054, tw1055, tw1056, np_X11_shared, by decide, by decide⟩
theorem sv_L_law_57 : SiteV M_L_law 57 M_X12_shared 4 := ⟨tw1804, tw1805, tw1806, np_X12_shared, by decide, by decide⟩
theorem sv_L_law_58 : SiteV M_L_law 58 M_X11_common 5 := ⟨tw1059, tw1060, tw1061, np_X11_common, by decide, by decide⟩
theorem sv_L_law_61 : SiteV M_L_law 61 M_X12_common 5 := ⟨tw1808, tw1809, tw1810, np_X12_common, by decide, by decide⟩
theorem sv_L_law_62 : SiteV M_L_law 62 M_X11_question 3 := ⟨tw1068, tw1069, tw1070, np_X11_question, by decide, by decide⟩
theorem sv_L_law_65 : SiteV M_L_law 65 M_X12_question 3 := ⟨tw1812, tw1813, tw1814, np_X12_question, by decide, by decide⟩
theorem sv_L_law_66 : SiteV M_L_law 66 M_X11_holds 5 := ⟨tw1093, tw1094, tw1095, np_X11_holds, by decide, by decide⟩
theorem sv_L_law_69 : SiteV M_L_law 69 M_X12_holds 5 := ⟨tw1832, tw1833, tw1834, np_X12_holds, by decide, by decide⟩
theorem sv_L_law_70 : SiteV M_L_law 70 M_X11_spans 6 := ⟨tw1141, tw1142, tw1143, np_X11_spans, by decide, by decide⟩
theorem sv_L_law_74 : SiteV M_L_law 74 M_X12_spans 6 := ⟨tw1860, tw1861, tw1862, np_X12_spans, by decide, by decide⟩
theorem sv_L_law_75 : SiteV M_L_law 75 M_X11_times 5 := ⟨tw1148, tw1149, tw1150, np_X11_times, by decide, by decide⟩
theorem sv_L_law_78 : SiteV M_L_law 78 M_X12_times 5 := ⟨tw1864, tw1865, tw1866, np_X12_times, by decide, by decide⟩
theorem sv_L_law_79 : SiteV M_L_law 79 M_X11_found 4 := ⟨tw1153, tw1154, tw1155, np_X11_found, by decide, by decide⟩
theorem sv_L_law_82 : SiteV M_L_law 82 M_X12_found 4 := ⟨tw1868, tw1869, tw1870, np_X12_found, by decide, by decide⟩
theorem sv_L_law_83 : SiteV M_L_law 83 M_X11_best 3 := ⟨tw1206, tw1207, tw1208, np_X11_best, by decide, by decide⟩
theorem sv_L_law_86 : SiteV M_L_law 86 M_X12_best 3 := ⟨tw1896, tw1897, tw1898, np_X12_best, by decide, by decide⟩
theorem sv_L_law_87 : SiteV M_L_law 87 M_X11_implies 4 := ⟨tw1223, tw1224, tw1225, np_X11_implies, by decide, by decide⟩
theorem sv_L_law_90 : SiteV M_L_law 90 M_X12_implies 4 := ⟨tw1912, tw1913, tw1914, np_X12_implies, by decide, by decide⟩
theorem sv_L_law_91 : SiteV M_L_law 91 M_X11_fact 3 := ⟨tw1229, tw1230, tw1231, np_X11_fact, by decide, by decide⟩
theorem sv_L_law_94 : SiteV M_L_law 94 M_X12_fact 3 := ⟨tw1916, tw1917, tw1918, np_X12_fact, by decide, by decide⟩
theorem sv_L_law_95 : SiteV M_L_law 95 M_X11_fits 3 := ⟨tw1246, tw1247, tw1248, np_X11_fits, by decide, by decide⟩
theorem sv_L_law_98 : SiteV M_L_law 98 M_X12_fits 3 := ⟨tw1932, tw1933, tw1934, np_X12_fits, by decide, by decide⟩
theorem sv_L_law_99 : SiteV M_L_law 99 M_X11_drawn 5 := ⟨tw1288, tw1289, tw1290, np_X11_drawn, by decide, by decide⟩
theorem sv_L_law_102 : SiteV M_L_law 102 M_X12_drawn 5 := ⟨tw1956, tw1957, tw1958, np_X12_drawn, by decide, by decide⟩
theorem sv_L_law_103 : SiteV M_L_law 103 M_X11_count 1 := ⟨tw1342, tw1343, tw1344, np_X11_count, by decide, by decide⟩
theorem sv_L_law_106 : SiteV M_L_law 106 M_X12_count 1 := ⟨tw1981, tw1982, tw1983, np_X12_count, by decide, by decide⟩
theorem sv_L_law_107 : SiteV M_L_law 107 M_X11_image 1 := ⟨tw1348, tw1349, tw1350, np_X11_image, by decide, by decide⟩
theorem sv_L_law_111 : SiteV M_L_law 111 M_X12_image 1 := ⟨tw1985, tw1986, tw1987, np_X12_image, by decide, by decide⟩
theorem sv_L_law_112 : SiteV M_L_law 112 M_X11_again 1 := ⟨tw1363, tw1364, tw1365, np_X11_again, by decide, by decide⟩
theorem sv_L_law_115 : SiteV M_L_law 115 M_X12_again 1 := ⟨tw1996, tw1997, tw1998, np_X12_again, by decide, by decide⟩
theorem ss_X0_addDocument_50 : SiteS M_X0_addDocument 50 M_X5_set 3 := ⟨tw512, tw513, np_X5_set, by decide, by decide⟩
theorem ss_X0_addDocument_87 : SiteS M_X0_addDocument 87 M_X5_at 2 := ⟨tw694, tw498, np_X5_at, by decide, by decide⟩
theorem sv_X0_addDocument_108 : SiteV M_X0_addDocument 108 M_X0_open 2 := ⟨tw728, tw730, tw14, np_X0_open, by decide, by decide⟩
theorem sv_X0_addDocument_111 : SiteV M_X0_addDocument 111 M_X0_newToken 2 := ⟨tw736, tw738, tw15, np_X0_newToken, by decide, by decide⟩
theorem sv_X0_addDocument_114 : SiteV M_X0_addDocument 114 M_X0_insert 3 := ⟨tw740, tw742, tw16, np_X0_insert, by decide, by decide⟩
theorem sv_X0_addDocument_118 : SiteV M_X0_addDocument 118 M_X0_close 3 := ⟨tw744, tw746, tw17, np_X0_close, by decide, by decide⟩
theorem ss_X0_clear_50 : SiteS M_X0_clear 50 M_X5_set 3 := ⟨tw512, tw513, np_X5_set, by decide, by decide⟩
theorem ss_X0_close_50 : SiteS M_X0_close 50 M_X5_set 3 := ⟨tw512, tw513, np_X5_set, by decide, by decide⟩
theorem sv_X0_close_76 : SiteV M_X0_close 76 M_X0_versionsOf 1 := ⟨tw704, tw691, tw692, np_X0_versionsOf, by decide, by decide⟩
theorem ss_X0_close_87 : SiteS M_X0_close 87 M_X5_at 2 := ⟨tw694, tw498, np_X5_at, by decide, by decide⟩
theorem ss_X0_copyFrom_56 : SiteS M_X0_copyFrom 56 M_X5_copy 2 := ⟨tw826, tw827, np_X5_copy, by decide, by decide⟩
theorem ss_X0_copyFrom_60 : SiteS M_X0_copyFrom 60 M_J9_min_7cf53 2 := ⟨tw833, tw675, np_J9_min_7cf53, by decide, by decide⟩
theorem sc_X0_copyFrom_66 : SiteC M_X0_copyFrom 66 := ⟨tw834, tw832, tw831, tw156, by decide, by decide⟩
theorem sv_X0_cutWords_76 : SiteV M_X0_cutWords 76 M_X0_versionsOf 1 := ⟨tw704, tw691, tw692, np_X0_versionsOf, by decide, by decide⟩
theorem sv_X0_cutWords_108 : SiteV M_X0_cutWords 108 M_X0_open 2 := ⟨tw728, tw730, tw14, np_X0_open, by decide, by decide⟩
theorem sv_X0_cutWords_118 : SiteV M_X0_cutWords 118 M_X0_close 3 := ⟨tw744, tw746, tw17, np_X0_close, by decide, by decide⟩
theorem sv_X0_cutWords_121 : SiteV M_X0_cutWords 121 M_X0_remove 2 := ⟨tw756, tw758, tw18, np_X0_remove, by decide, by decide⟩
theorem ss_X0_dateOf_87 : SiteS M_X0_dateOf 87 M_X5_at 2 := ⟨tw694, tw498, np_X5_at, by decide, by decide⟩
theorem ss_X0_dateOf_91 : SiteS M_X0_dateOf 91 M_X0_slotOf 2 := ⟨tw709, tw710, np_X0_slotOf, by decide, by decide⟩
theorem sv_X0_everyVersion_76 : SiteV M_X0_everyVersion 76 M_X0_versionsOf 1 := ⟨tw704, tw691, tw692, np_X0_versionsOf, by decide, by decide⟩
theorem sv_X0_firstTokenOf_105 : SiteV M_X0_firstTokenOf 105 M_X0_ownerOf 1 := ⟨tw814, tw815, tw816, np_X0_ownerOf, by decide, by decide⟩
theorem sv_X0_goBack_108 : SiteV M_X0_goBack 108 M_X0_open 2 := ⟨tw728, tw730, tw14, np_X0_open, by decide, by decide⟩
theorem sv_X0_goBack_118 : SiteV M_X0_goBack 118 M_X0_close 3 := ⟨tw744, tw746, tw17, np_X0_close, by decide, by decide⟩
theorem sv_X0_hasPlace_80 : SiteV M_X0_hasPlace 80 M_X0_hasVersion 2 := ⟨tw988, tw717, tw718, np_X0_hasVersion, by decide, by decide⟩
theorem sv_X0_hasPlace_84 : SiteV M_X0_hasPlace 84 M_X0_lengthOf 2 := ⟨tw705, tw706, tw707, np_X0_lengthOf, by decide, by decide⟩
theorem sv_X0_hasVersion_72 : SiteV M_X0_hasVersion 72 M_X0_hasDocument 1 := ⟨tw703, tw696, tw697, np_X0_hasDocument, by decide, by decide⟩
theorem sv_X0_hasVersion_76 : SiteV M_X0_hasVersion 76 M_X0_versionsOf 1 := ⟨tw704, tw691, tw692, np_X0_versionsOf, by decide, by decide⟩
theorem so_X0_init_5 : Cond.methodLink (mY M_X0_init).cls 5 objectInit ∈ GW ∧ Cond.instanceMethod objectInit ∈ GW ∧ Cond.code objectInit ⟨#[0xb1]⟩ 1 none ∈ GW ∧ 1 ≤ mF M_X0_init ∧ 20 ≤ mW M_X0_init := ⟨tw210, tw165, tw166, by decide, by decide⟩
theorem ss_X0_insert_50 : SiteS M_X0_insert 50 M_X5_set 3 := ⟨tw512, tw513, np_X5_set, by decide, by decide⟩
theorem ss_X0_insert_87 : SiteS M_X0_insert 87 M_X5_at 2 := ⟨tw694, tw498, np_X5_at, by decide, by decide⟩
theorem sv_X0_latestLength_72 : SiteV M_X0_latestLength 72 M_X0_hasDocument 1 := ⟨tw703, tw696, tw697, np_X0_hasDocument, by decide, by decide⟩
theorem sv_X0_latestLength_76 : SiteV M_X0_latestLength 76 M_X0_versionsOf 1 := ⟨tw704, tw691, tw692, np_X0_versionsOf, by decide, by decide⟩
theorem sv_X0_latestLength_84 : SiteV M_X0_latestLength 84 M_X0_lengthOf 2 := ⟨tw705, tw706, tw707, np_X0_lengthOf, by decide, by decide⟩
theorem ss_X0_lengthOf_87 : SiteS M_X0_lengthOf 87 M_X5_at 2 := ⟨tw694, tw498, np_X5_at, by decide, by decide⟩
theorem ss_X0_lengthOf_91 : SiteS M_X0_lengthOf 91 M_X0_slotOf 2 := ⟨tw709, tw710, np_X0_slotOf, by decide, by decide⟩
theorem ss_X0_listWords_87 : SiteS M_X0_listWords 87 M_X5_at 2 := ⟨tw694, tw498, np_X5_at, by decide, by decide⟩
theorem ss_X0_listWords_91 : SiteS M_X0_listWords 91 M_X0_slotOf 2 := ⟨tw709, tw710, np_X0_slotOf, by decide, by decide⟩
theorem sv_X0_listWords_105 : SiteV M_X0_listWords 105 M_X0_ownerOf 1 := ⟨tw814, tw815, tw816, np_X0_ownerOf, by decide, by decide⟩
theorem sv_X0_listWords_127 : SiteV M_X0_listWords 127 M_X0_placeOfWord 1 := ⟨tw798, tw800, tw21, np_X0_placeOfWord, by decide, by decide⟩
theorem sv_X0_listWords_130 : SiteV M_X0_listWords 130 M_X0_wordAt 1 := ⟨tw802, tw803, tw804, np_X0_wordAt, by decide, by decide⟩
theorem sv_X0_listWords_133 : SiteV M_X0_listWords 133 M_X0_openWord 2 := ⟨tw806, tw808, tw22, np_X0_openWord, by decide, by decide⟩
theorem sv_X0_listWords_137 : SiteV M_X0_listWords 137 M_X0_stayOf 1 := ⟨tw810, tw811, tw812, np_X0_stayOf, by decide, by decide⟩
theorem sv_X0_moveWord_76 : SiteV M_X0_moveWord 76 M_X0_versionsOf 1 := ⟨tw704, tw691, tw692, np_X0_versionsOf, by decide, by decide⟩
theorem sv_X0_moveWord_108 : SiteV M_X0_moveWord 108 M_X0_open 2 := ⟨tw728, tw730, tw14, np_X0_open, by decide, by decide⟩
theorem sv_X0_moveWord_114 : SiteV M_X0_moveWord 114 M_X0_insert 3 := ⟨tw740, tw742, tw16, np_X0_insert, by decide, by decide⟩
theorem sv_X0_moveWord_118 : SiteV M_X0_moveWord 118 M_X0_close 3 := ⟨tw744, tw746, tw17, np_X0_close, by decide, by decide⟩
theorem sv_X0_moveWord_121 : SiteV M_X0_moveWord 121 M_X0_remove 2 := ⟨tw756, tw758, tw18, np_X0_remove, by decide, by decide⟩
theorem ss_X0_newToken_50 : SiteS M_X0_newToken 50 M_X5_set 3 := ⟨tw512, tw513, np_X5_set, by decide, by decide⟩
theorem ss_X0_open_50 : SiteS M_X0_open 50 M_X5_set 3 := ⟨tw512, tw513, np_X5_set, by decide, by decide⟩
theorem sv_X0_open_76 : SiteV M_X0_open 76 M_X0_versionsOf 1 := ⟨tw704, tw691, tw692, np_X0_versionsOf, by decide, by decide⟩
theorem sv_X0_open_84 : SiteV M_X0_open 84 M_X0_lengthOf 2 := ⟨tw705, tw706, tw707, np_X0_lengthOf, by decide, by decide⟩
theorem ss_X0_open_91 : SiteS M_X0_open 91 M_X0_slotOf 2 := ⟨tw709, tw710, np_X0_slotOf, by decide, by decide⟩
theorem sv_X0_open_124 : SiteV M_X0_open 124 M_X0_tokenAt 3 := ⟨tw732, tw733, tw734, np_X0_tokenAt, by decide, by decide⟩
theorem ss_X0_ownerOf_87 : SiteS M_X0_ownerOf 87 M_X5_at 2 := ⟨tw694, tw498, np_X5_at, by decide, by decide⟩
theorem sv_X0_placeOfWord_130 : SiteV M_X0_placeOfWord 130 M_X0_wordAt 1 := ⟨tw802, tw803, tw804, np_X0_wordAt, by decide, by decide⟩
theorem sv_X0_putWords_76 : SiteV M_X0_putWords 76 M_X0_versionsOf 1 := ⟨tw704, tw691, tw692, np_X0_versionsOf, by decide, by decide⟩
theorem ss_X0_putWords_87 : SiteS M_X0_putWords 87 M_X5_at 2 := ⟨tw694, tw498, np_X5_at, by decide, by decide⟩
theorem sv_X0_putWords_108 : SiteV M_X0_putWords 108 M_X0_open 2 := ⟨tw728, tw730, tw14, np_X0_open, by decide, by decide⟩
theorem sv_X0_putWords_111 : SiteV M_X0_putWords 111 M_X0_newToken 2 := ⟨tw736, tw738, tw15, np_X0_newToken, by decide, by decide⟩
theorem sv_X0_putWords_114 : SiteV M_X0_putWords 114 M_X0_insert 3 := ⟨tw740, tw742, tw16, np_X0_insert, by decide, by decide⟩
theorem sv_X0_putWords_118 : SiteV M_X0_putWords 118 M_X0_close 3 := ⟨tw744, tw746, tw17, np_X0_close, by decide, by decide⟩
theorem ss_X0_remove_50 : SiteS M_X0_remove 50 M_X5_set 3 := ⟨tw512, tw513, np_X5_set, by decide, by decide⟩
theorem ss_X0_remove_87 : SiteS M_X0_remove 87 M_X5_at 2 := ⟨tw694, tw498, np_X5_at, by decide, by decide⟩
theorem ss_X0_spellingAt_87 : SiteS M_X0_spellingAt 87 M_X5_at 2 := ⟨tw694, tw498, np_X5_at, by decide, by decide⟩
theorem ss_X0_spellingAt_91 : SiteS M_X0_spellingAt 91 M_X0_slotOf 2 := ⟨tw709, tw710, np_X0_slotOf, by decide, by decide⟩
theorem ss_X0_stayOf_87 : SiteS M_X0_stayOf 87 M_X5_at 2 := ⟨tw694, tw498, np_X5_at, by decide, by decide⟩
theorem ss_X0_tokenAt_87 : SiteS M_X0_tokenAt 87 M_X5_at 2 := ⟨tw694, tw498, np_X5_at, by decide, by decide⟩
theorem ss_X0_tokenAt_91 : SiteS M_X0_tokenAt 91 M_X0_slotOf 2 := ⟨tw709, tw710, np_X0_slotOf, by decide, by decide⟩
theorem sv_X0_tokensOf_105 : SiteV M_X0_tokensOf 105 M_X0_ownerOf 1 := ⟨tw814, tw815, tw816, np_X0_ownerOf, by decide, by decide⟩
theorem ss_X0_versionsOf_87 : SiteS M_X0_versionsOf 87 M_X5_at 2 := ⟨tw694, tw498, np_X5_at, by decide, by decide⟩
theorem sv_X0_versionsOfAll_76 : SiteV M_X0_versionsOfAll 76 M_X0_versionsOf 1 := ⟨tw704, tw691, tw692, np_X0_versionsOf, by decide, by decide⟩
theorem ss_X0_wordAt_87 : SiteS M_X0_wordAt 87 M_X5_at 2 := ⟨tw694, tw498, np_X5_at, by decide, by decide⟩
theorem sv_X0_wordNumberAt_94 : SiteV M_X0_wordNumberAt 94 M_X0_hasPlace 3 := ⟨tw984, tw985, tw986, np_X0_hasPlace, by decide, by decide⟩
theorem sv_X0_wordNumberAt_98 : SiteV M_X0_wordNumberAt 98 M_X0_spellingAt 3 := ⟨tw989, tw903, tw904, np_X0_spellingAt, by decide, by decide⟩
theorem ss_X0_wordNumberAt_102 : SiteS M_X0_wordNumberAt 102 M_X5_wordNumber 1 := ⟨tw990, tw991, np_X5_wordNumber, by decide, by decide⟩
theorem ss_X10_copyFrom_26 : SiteS M_X10_copyFrom 26 M_J9_min_7cf53 2 := ⟨tw1360, tw675, np_J9_min_7cf53, by decide, by decide⟩
theorem sc_X10_copyFrom_32 : SiteC M_X10_copyFrom 32 := ⟨tw1361, tw832, tw831, tw156, by decide, by decide⟩
theorem so_X10_init_1 : Cond.methodLink (mY M_X10_init).cls 1 objectInit ∈ GW ∧ Cond.instanceMethod objectInit ∈ GW ∧ Cond.code objectInit ⟨#[0xb1]⟩ 1 none ∈ GW ∧ 1 ≤ mF M_X10_init ∧ 20 ≤ mW M_X10_init := ⟨tw178, tw165, tw166, by decide, by decide⟩
theorem sv_X10_next_38 : SiteV M_X10_next 38 M_X10_byteAt 1 := ⟨tw531, tw533, tw2, np_X10_byteAt, by decide, by decide⟩
theorem ss_X10_next_42 : SiteS M_X10_next 42 M_X10_isBlank 1 := ⟨tw535, tw536, np_X10_isBlank, by decide, by decide⟩
theorem ss_X10_next_46 : SiteS M_X10_next 46 M_X10_isLetter 1 := ⟨tw538, tw539, np_X10_isLetter, by decide, by decide⟩
theorem ss_X10_next_49 : SiteS M_X10_next 49 M_X10_isDigit 1 := ⟨tw541, tw542, np_X10_isDigit, by decide, by decide⟩
theorem sv_X10_number_38 : SiteV M_X10_number 38 M_X10_byteAt 1 := ⟨tw531, tw533, tw2, np_X10_byteAt, by decide, by decide⟩
theorem sv_X10_spelling_38 : SiteV M_X10_spelling 38 M_X10_byteAt 1 := ⟨tw531, tw533, tw2, np_X10_byteAt, by decide, by decide⟩
theorem sv_X10_tokenIs_38 : SiteV M_X10_tokenIs 38 M_X10_byteAt 1 := ⟨tw531, tw533, tw2, np_X10_byteAt, by decide, by decide⟩
theorem sv_X10_tokenIs_52 : SiteV M_X10_tokenIs 52 M_J0_length_8abf5 0 := ⟨tw572, tw573, tw574, np_J0_length_8abf5, by decide, by decide⟩
theorem sv_X10_tokenIs_57 : SiteV M_X10_tokenIs 57 M_J0_charAt_5068e 1 := ⟨tw582, tw583, tw584, np_J0_charAt_5068e, by decide, by decide⟩
theorem sv_X11_again_347 : SiteV M_X11_again 347 M_X9_copyFrom 1 := ⟨tw1352, tw1353, tw1354, np_X9_copyFrom, by decide, by decide⟩
theorem sv_X11_archive_86 : SiteV M_X11_archive 86 M_X9_archiveAt 1 := ⟨tw857, tw858, tw859, np_X9_archiveAt, by decide, by decide⟩
theorem sv_X11_archive_95 : SiteV M_X11_archive 95 M_X0_versionsOfAll 0 := ⟨tw861, tw862, tw863, np_X0_versionsOfAll, by decide, by decide⟩
theorem sv_X11_archive_99 : SiteV M_X11_archive 99 M_X2_size 1 := ⟨tw865, tw866, tw867, np_X2_size, by decide, by decide⟩
theorem sv_X11_archive_106 : SiteV M_X11_archive 106 M_X2_postings 1 := ⟨tw871, tw872, tw873, np_X2_postings, by decide, by decide⟩
theorem sv_X11_archive_109 : SiteV M_X11_archive 109 M_X2_longestDocument 1 := ⟨tw885, tw886, tw887, np_X2_longestDocument, by decide, by decide⟩
theorem sv_X11_archive_112 : SiteV M_X11_archive 112 M_X2_twins 1 := ⟨tw890, tw891, tw892, np_X2_twins, by decide, by decide⟩
theorem sv_X11_archive_118 : SiteV M_X11_archive 118 M_X11_ofDocument 2 := ⟨tw906, tw908, tw25, np_X11_ofDocument, by decide, by decide⟩
theorem sv_X11_best_86 : SiteV M_X11_best 86 M_X9_archiveAt 1 := ⟨tw857, tw858, tw859, np_X9_archiveAt, by decide, by decide⟩
theorem sv_X11_best_231 : SiteV M_X11_best 231 M_X9_questionsAt 1 := ⟨tw1072, tw1073, tw1074, np_X9_questionsAt, by decide, by decide⟩
theorem sv_X11_best_254 : SiteV M_X11_best 254 M_X8_look 3 := ⟨tw1097, tw1098, tw1099, np_X8_look, by decide, by decide⟩
theorem sv_X11_best_295 : SiteV M_X11_best 295 M_X8_heldMost 2 := ⟨tw1210, tw1211, tw1212, np_X8_heldMost, by decide, by decide⟩
theorem sv_X11_best_299 : SiteV M_X11_best 299 M_X8_sameCouples 2 := ⟨tw1215, tw1216, tw1217, np_X8_sameCouples, by decide, by decide⟩
theorem sv_X11_common_86 : SiteV M_X11_common 86 M_X9_archiveAt 1 := ⟨tw857, tw858, tw859, np_X9_archiveAt, by decide, by decide⟩
theorem sv_X11_common_140 : SiteV M_X11_common 140 M_X0_hasVersion 2 := ⟨tw953, tw717, tw718, np_X0_hasVersion, by decide, by decide⟩
theorem sv_X11_common_227 : SiteV M_X11_common 227 M_X2_longestRow 5 := ⟨tw1063, tw1064, tw1065, np_X2_longestRow, by decide, by decide⟩
theorem sv_X11_count_341 : SiteV M_X11_count 341 M_X9_isSort 1 := ⟨tw1346, tw490, tw491, np_X9_isSort, by decide, by decide⟩
theorem sv_X11_count_344 : SiteV M_X11_count 344 M_X9_howMany 1 := ⟨tw1347, tw494, tw495, np_X9_howMany, by decide, by decide⟩
theorem sv_X11_dated_86 : SiteV M_X11_dated 86 M_X9_archiveAt 1 := ⟨tw857, tw858, tw859, np_X9_archiveAt, by decide, by decide⟩
theorem sv_X11_dated_220 : SiteV M_X11_dated 220 M_X2_documentOfDate 2 := ⟨tw1049, tw1050, tw1051, np_X2_documentOfDate, by decide, by decide⟩
theorem sv_X11_drawn_86 : SiteV M_X11_drawn 86 M_X9_archiveAt 1 := ⟨tw857, tw858, tw859, np_X9_archiveAt, by decide, by decide⟩
theorem sv_X11_drawn_122 : SiteV M_X11_drawn 122 M_X0_hasDocument 1 := ⟨tw910, tw696, tw697, np_X0_hasDocument, by decide, by decide⟩
theorem sv_X11_drawn_126 : SiteV M_X11_drawn 126 M_X0_versionsOf 1 := ⟨tw911, tw691, tw692, np_X0_versionsOf, by decide, by decide⟩
theorem sv_X11_drawn_144 : SiteV M_X11_drawn 144 M_X0_lengthOf 2 := ⟨tw954, tw706, tw707, np_X0_lengthOf, by decide, by decide⟩
theorem sv_X11_drawn_163 : SiteV M_X11_drawn 163 M_X0_wordNumberAt 3 := ⟨tw980, tw981, tw982, np_X0_wordNumberAt, by decide, by decide⟩
theorem sv_X11_drawn_334 : SiteV M_X11_drawn 334 M_X1_goOn 3 := ⟨tw1292, tw1293, tw1294, np_X1_goOn, by decide, by decide⟩
theorem sv_X11_drawn_338 : SiteV M_X11_drawn 338 M_X0_tokensOf 1 := ⟨tw1338, tw1339, tw1340, np_X0_tokensOf, by decide, by decide⟩
theorem sv_X11_fact_311 : SiteV M_X11_fact 311 M_X9_huntAt 1 := ⟨tw1233, tw1234, tw1235, np_X9_huntAt, by decide, by decide⟩
theorem sv_X11_fact_318 : SiteV M_X11_fact 318 M_X3_has 1 := ⟨tw1237, tw1238, tw1239, np_X3_has, by decide, by decide⟩
theorem sv_X11_fact_319 : SiteV M_X11_fact 319 M_X3_partOf 2 := ⟨tw1241, tw1242, tw1243, np_X3_partOf, by decide, by decide⟩
theorem sv_X11_feed_52 : SiteV M_X11_feed 52 M_X10_hasRoom 0 := ⟨tw469, tw470, tw471, np_X10_hasRoom, by decide, by decide⟩
theorem sv_X11_feed_58 : SiteV M_X11_feed 58 M_X10_add 1 := ⟨tw473, tw474, tw475, np_X10_add, by decide, by decide⟩
theorem sv_X11_fits_86 : SiteV M_X11_fits 86 M_X9_archiveAt 1 := ⟨tw857, tw858, tw859, np_X9_archiveAt, by decide, by decide⟩
theorem sv_X11_fits_311 : SiteV M_X11_fits 311 M_X9_huntAt 1 := ⟨tw1233, tw1234, tw1235, np_X9_huntAt, by decide, by decide⟩
theorem sv_X11_fits_322 : SiteV M_X11_fits 322 M_X3_fitting 1 := ⟨tw1250, tw1251, tw1252, np_X3_fitting, by decide, by decide⟩
theorem sv_X11_fits_325 : SiteV M_X11_fits 325 M_X3_sureLetter 1 := ⟨tw1264, tw1265, tw1266, np_X3_sureLetter, by decide, by decide⟩
theorem sv_X11_fits_328 : SiteV M_X11_fits 328 M_X3_askVersion 1 := ⟨tw1272, tw1273, tw1274, np_X3_askVersion, by decide, by decide⟩
theorem sv_X11_fits_331 : SiteV M_X11_fits 331 M_X3_fittingAt 2 := ⟨tw1283, tw1284, tw1285, np_X3_fittingAt, by decide, by decide⟩
theorem sv_X11_found_86 : SiteV M_X11_found 86 M_X9_archiveAt 1 := ⟨tw857, tw858, tw859, np_X9_archiveAt, by decide, by decide⟩
theorem sv_X11_found_231 : SiteV M_X11_found 231 M_X9_questionsAt 1 := ⟨tw1072, tw1073, tw1074, np_X9_questionsAt, by decide, by decide⟩
theorem sv_X11_found_239 : SiteV M_X11_found 239 M_X6_has 1 := ⟨tw1076, tw1077, tw1078, np_X6_has, by decide, by decide⟩
theorem sv_X11_found_254 : SiteV M_X11_found 254 M_X8_look 3 := ⟨tw1097, tw1098, tw1099, np_X8_look, by decide, by decide⟩
theorem sv_X11_found_271 : SiteV M_X11_found 271 M_X8_everIn 2 := ⟨tw1157, tw1158, tw1159, np_X8_everIn, by decide, by decide⟩
theorem sv_X11_found_274 : SiteV M_X11_found 274 M_X8_alwaysIn 2 := ⟨tw1161, tw1162, tw1163, np_X8_alwaysIn, by decide, by decide⟩
theorem sv_X11_found_277 : SiteV M_X11_found 277 M_X8_changes 2 := ⟨tw1165, tw1166, tw1167, np_X8_changes, by decide, by decide⟩
theorem sv_X11_found_280 : SiteV M_X11_found 280 M_X8_versionsHeld 2 := ⟨tw1180, tw1181, tw1182, np_X8_versionsHeld, by decide, by decide⟩
theorem sv_X11_found_283 : SiteV M_X11_found 283 M_X11_foundAt 3 := ⟨tw1185, tw1187, tw34, np_X11_foundAt, by decide, by decide⟩
theorem sv_X11_foundAt_286 : SiteV M_X11_foundAt 286 M_X8_ranked 3 := ⟨tw1189, tw1190, tw1191, np_X8_ranked, by decide, by decide⟩
theorem sv_X11_foundAt_289 : SiteV M_X11_foundAt 289 M_X8_asOf 3 := ⟨tw1201, tw1175, tw1176, np_X8_asOf, by decide, by decide⟩
theorem sv_X11_foundAt_292 : SiteV M_X11_foundAt 292 M_X8_changeAt 3 := ⟨tw1202, tw1203, tw1204, np_X8_changeAt, by decide, by decide⟩
theorem sv_X11_holds_86 : SiteV M_X11_holds 86 M_X9_archiveAt 1 := ⟨tw857, tw858, tw859, np_X9_archiveAt, by decide, by decide⟩
theorem sv_X11_holds_140 : SiteV M_X11_holds 140 M_X0_hasVersion 2 := ⟨tw953, tw717, tw718, np_X0_hasVersion, by decide, by decide⟩
theorem sv_X11_holds_231 : SiteV M_X11_holds 231 M_X9_questionsAt 1 := ⟨tw1072, tw1073, tw1074, np_X9_questionsAt, by decide, by decide⟩
theorem sv_X11_holds_239 : SiteV M_X11_holds 239 M_X6_has 1 := ⟨tw1076, tw1077, tw1078, np_X6_has, by decide, by decide⟩
theorem sv_X11_holds_254 : SiteV M_X11_holds 254 M_X8_look 3 := ⟨tw1097, tw1098, tw1099, np_X8_look, by decide, by decide⟩
theorem sv_X11_holds_258 : SiteV M_X11_holds 258 M_X8_held 2 := ⟨tw1139, tw1107, tw1108, np_X8_held, by decide, by decide⟩
theorem ss_X11_holds_261 : SiteS M_X11_holds 261 M_X5_bit 2 := ⟨tw1140, tw925, np_X5_bit, by decide, by decide⟩
theorem si_X11_image_9 : SiteI M_X11_image 9 M_X9_init 0 none := ⟨tw169, tw170, rfl, rfl, np_X9_init, by decide, by decide⟩
theorem sv_X11_image_347 : SiteV M_X11_image 347 M_X9_copyFrom 1 := ⟨tw1352, tw1353, tw1354, np_X9_copyFrom, by decide, by decide⟩
theorem sv_X11_implies_86 : SiteV M_X11_implies 86 M_X9_archiveAt 1 := ⟨tw857, tw858, tw859, np_X9_archiveAt, by decide, by decide⟩
theorem sv_X11_implies_231 : SiteV M_X11_implies 231 M_X9_questionsAt 1 := ⟨tw1072, tw1073, tw1074, np_X9_questionsAt, by decide, by decide⟩
theorem sv_X11_implies_239 : SiteV M_X11_implies 239 M_X6_has 1 := ⟨tw1076, tw1077, tw1078, np_X6_has, by decide, by decide⟩
theorem sv_X11_implies_254 : SiteV M_X11_implies 254 M_X8_look 3 := ⟨tw1097, tw1098, tw1099, np_X8_look, by decide, by decide⟩
theorem ss_X11_implies_302 : SiteS M_X11_implies 302 M_J9_max_7cf53 2 := ⟨tw1227, tw846, np_J9_max_7cf53, by decide, by decide⟩
theorem sv_X11_implies_307 : SiteV M_X11_implies 307 M_X8_within 3 := ⟨tw1228, tw1220, tw1221, np_X8_within, by decide, by decide⟩
theorem so_X11_init_1 : Cond.methodLink (mY M_X11_init).cls 1 objectInit ∈ GW ∧ Cond.instanceMethod objectInit ∈ GW ∧ Cond.code objectInit ⟨#[0xb1]⟩ 1 none ∈ GW ∧ 1 ≤ mF M_X11_init ∧ 20 ≤ mW M_X11_init := ⟨tw164, tw165, tw166, by decide, by decide⟩
theorem si_X11_init_9 : SiteI M_X11_init 9 M_X9_init 0 none := ⟨tw169, tw170, rfl, rfl, np_X9_init, by decide, by decide⟩
theorem si_X11_init_22 : SiteI M_X11_init 22 M_X7_init 0 (some "VersionSearch") := ⟨by decide +kernel, tw328, rfl, rfl, np_X7_init, by decide, by decide⟩
theorem si_X11_init_29 : SiteI M_X11_init 29 M_X2_init 0 (some "VersionSearch") := ⟨by decide +kernel, tw411, rfl, rfl, np_X2_init, by decide, by decide⟩
theorem si_X11_init_36 : SiteI M_X11_init 36 M_X8_init 0 (some "VersionSearch") := ⟨by decide +kernel, tw421, rfl, rfl, np_X8_init, by decide, by decide⟩
theorem si_X11_init_43 : SiteI M_X11_init 43 M_X1_init 0 (some "VersionSearch") := ⟨by decide +kernel, tw431, rfl, rfl, np_X1_init, by decide, by decide⟩
theorem sv_X11_life_86 : SiteV M_X11_life 86 M_X9_archiveAt 1 := ⟨tw857, tw858, tw859, np_X9_archiveAt, by decide, by decide⟩
theorem sv_X11_life_167 : SiteV M_X11_life 167 M_X0_hasPlace 3 := ⟨tw997, tw985, tw986, np_X0_hasPlace, by decide, by decide⟩
theorem sv_X11_life_171 : SiteV M_X11_life 171 M_X0_tokenAt 3 := ⟨tw998, tw733, tw734, np_X0_tokenAt, by decide, by decide⟩
theorem sv_X11_life_174 : SiteV M_X11_life 174 M_X0_stayOf 1 := ⟨tw999, tw811, tw812, np_X0_stayOf, by decide, by decide⟩
theorem ss_X11_life_177 : SiteS M_X11_life 177 M_X5_firstBit 1 := ⟨tw1000, tw918, np_X5_firstBit, by decide, by decide⟩
theorem ss_X11_life_182 : SiteS M_X11_life 182 M_X5_lastBit 1 := ⟨tw1001, tw1002, np_X5_lastBit, by decide, by decide⟩
theorem ss_X11_life_185 : SiteS M_X11_life 185 M_J6_bitCount_0f7a4 1 := ⟨tw1005, tw880, np_J6_bitCount_0f7a4, by decide, by decide⟩
theorem ss_X11_life_190 : SiteS M_X11_life 190 M_X5_runs 1 := ⟨tw1006, tw877, np_X5_runs, by decide, by decide⟩
theorem sv_X11_ofDocument_122 : SiteV M_X11_ofDocument 122 M_X0_hasDocument 1 := ⟨tw910, tw696, tw697, np_X0_hasDocument, by decide, by decide⟩
theorem sv_X11_ofDocument_126 : SiteV M_X11_ofDocument 126 M_X0_versionsOf 1 := ⟨tw911, tw691, tw692, np_X0_versionsOf, by decide, by decide⟩
theorem sv_X11_ofDocument_130 : SiteV M_X11_ofDocument 130 M_X2_passages 3 := ⟨tw912, tw913, tw914, np_X2_passages, by decide, by decide⟩
theorem sv_X11_ofDocument_134 : SiteV M_X11_ofDocument 134 M_X2_kept 2 := ⟨tw932, tw933, tw934, np_X2_kept, by decide, by decide⟩
theorem sv_X11_ofDocument_137 : SiteV M_X11_ofDocument 137 M_X2_returns 2 := ⟨tw941, tw942, tw943, np_X2_returns, by decide, by decide⟩
theorem ss_X11_question_199 : SiteS M_X11_question 199 M_X5_wordNumber 1 := ⟨tw1016, tw991, np_X5_wordNumber, by decide, by decide⟩
theorem sv_X11_question_231 : SiteV M_X11_question 231 M_X9_questionsAt 1 := ⟨tw1072, tw1073, tw1074, np_X9_questionsAt, by decide, by decide⟩
theorem sv_X11_question_239 : SiteV M_X11_question 239 M_X6_has 1 := ⟨tw1076, tw1077, tw1078, np_X6_has, by decide, by decide⟩
theorem sv_X11_question_242 : SiteV M_X11_question 242 M_X6_kindOf 1 := ⟨tw1080, tw1081, tw1082, np_X6_kindOf, by decide, by decide⟩
theorem sv_X11_question_245 : SiteV M_X11_question 245 M_X6_numberOf 2 := ⟨tw1084, tw1085, tw1086, np_X6_numberOf, by decide, by decide⟩
theorem sv_X11_question_248 : SiteV M_X11_question 248 M_X6_wordsOf 1 := ⟨tw1088, tw781, tw782, np_X6_wordsOf, by decide, by decide⟩
theorem sv_X11_question_251 : SiteV M_X11_question 251 M_X6_wordOf 2 := ⟨tw1089, tw1090, tw1091, np_X6_wordOf, by decide, by decide⟩
theorem sv_X11_shared_86 : SiteV M_X11_shared 86 M_X9_archiveAt 1 := ⟨tw857, tw858, tw859, np_X9_archiveAt, by decide, by decide⟩
theorem sv_X11_shared_140 : SiteV M_X11_shared 140 M_X0_hasVersion 2 := ⟨tw953, tw717, tw718, np_X0_hasVersion, by decide, by decide⟩
theorem sv_X11_shared_223 : SiteV M_X11_shared 223 M_X2_inBoth 4 := ⟨tw1058, tw968, tw969, np_X2_inBoth, by decide, by decide⟩
theorem sv_X11_spans_86 : SiteV M_X11_spans 86 M_X9_archiveAt 1 := ⟨tw857, tw858, tw859, np_X9_archiveAt, by decide, by decide⟩
theorem sv_X11_spans_122 : SiteV M_X11_spans 122 M_X0_hasDocument 1 := ⟨tw910, tw696, tw697, np_X0_hasDocument, by decide, by decide⟩
theorem ss_X11_spans_177 : SiteS M_X11_spans 177 M_X5_firstBit 1 := ⟨tw1000, tw918, np_X5_firstBit, by decide, by decide⟩
theorem ss_X11_spans_182 : SiteS M_X11_spans 182 M_X5_lastBit 1 := ⟨tw1001, tw1002, np_X5_lastBit, by decide, by decide⟩
theorem ss_X11_spans_190 : SiteS M_X11_spans 190 M_X5_runs 1 := ⟨tw1006, tw877, np_X5_runs, by decide, by decide⟩
theorem sv_X11_spans_231 : SiteV M_X11_spans 231 M_X9_questionsAt 1 := ⟨tw1072, tw1073, tw1074, np_X9_questionsAt, by decide, by decide⟩
theorem sv_X11_spans_239 : SiteV M_X11_spans 239 M_X6_has 1 := ⟨tw1076, tw1077, tw1078, np_X6_has, by decide, by decide⟩
theorem sv_X11_spans_254 : SiteV M_X11_spans 254 M_X8_look 3 := ⟨tw1097, tw1098, tw1099, np_X8_look, by decide, by decide⟩
theorem sv_X11_spans_258 : SiteV M_X11_spans 258 M_X8_held 2 := ⟨tw1139, tw1107, tw1108, np_X8_held, by decide, by decide⟩
theorem ss_X11_spans_264 : SiteS M_X11_spans 264 M_X5_runAt 2 := ⟨tw1145, tw1146, np_X5_runAt, by decide, by decide⟩
theorem sv_X11_text_66 : SiteV M_X11_text 66 M_X9_placeFor 2 := ⟨tw485, tw486, tw487, np_X9_placeFor, by decide, by decide⟩
theorem sv_X11_text_76 : SiteV M_X11_text 76 M_X7_take 2 := ⟨tw504, tw505, tw506, np_X7_take, by decide, by decide⟩
theorem sv_X11_text_82 : SiteV M_X11_text 82 M_X9_keep 3 := ⟨tw818, tw819, tw820, np_X9_keep, by decide, by decide⟩
theorem sv_X11_times_86 : SiteV M_X11_times 86 M_X9_archiveAt 1 := ⟨tw857, tw858, tw859, np_X9_archiveAt, by decide, by decide⟩
theorem sv_X11_times_140 : SiteV M_X11_times 140 M_X0_hasVersion 2 := ⟨tw953, tw717, tw718, np_X0_hasVersion, by decide, by decide⟩
theorem sv_X11_times_231 : SiteV M_X11_times 231 M_X9_questionsAt 1 := ⟨tw1072, tw1073, tw1074, np_X9_questionsAt, by decide, by decide⟩
theorem sv_X11_times_239 : SiteV M_X11_times 239 M_X6_has 1 := ⟨tw1076, tw1077, tw1078, np_X6_has, by decide, by decide⟩
theorem sv_X11_times_242 : SiteV M_X11_times 242 M_X6_kindOf 1 := ⟨tw1080, tw1081, tw1082, np_X6_kindOf, by decide, by decide⟩
theorem sv_X11_times_267 : SiteV M_X11_times 267 M_X8_beginnings 5 := ⟨tw1152, tw1119, tw1120, np_X8_beginnings, by decide, by decide⟩
theorem sv_X11_version_86 : SiteV M_X11_version 86 M_X9_archiveAt 1 := ⟨tw857, tw858, tw859, np_X9_archiveAt, by decide, by decide⟩
theorem sv_X11_version_140 : SiteV M_X11_version 140 M_X0_hasVersion 2 := ⟨tw953, tw717, tw718, np_X0_hasVersion, by decide, by decide⟩
theorem sv_X11_version_144 : SiteV M_X11_version 144 M_X0_lengthOf 2 := ⟨tw954, tw706, tw707, np_X0_lengthOf, by decide, by decide⟩
theorem sv_X11_version_147 : SiteV M_X11_version 147 M_X0_dateOf 2 := ⟨tw955, tw956, tw957, np_X0_dateOf, by decide, by decide⟩
theorem sv_X11_version_150 : SiteV M_X11_version 150 M_X2_fresh 3 := ⟨tw959, tw960, tw961, np_X2_fresh, by decide, by decide⟩
theorem sv_X11_version_154 : SiteV M_X11_version 154 M_X2_lost 3 := ⟨tw963, tw964, tw965, np_X2_lost, by decide, by decide⟩
theorem sv_X11_version_157 : SiteV M_X11_version 157 M_X2_turned 3 := ⟨tw971, tw972, tw973, np_X2_turned, by decide, by decide⟩
theorem sv_X11_version_160 : SiteV M_X11_version 160 M_X2_oldest 3 := ⟨tw975, tw976, tw977, np_X2_oldest, by decide, by decide⟩
theorem sv_X11_version_163 : SiteV M_X11_version 163 M_X0_wordNumberAt 3 := ⟨tw980, tw981, tw982, np_X0_wordNumberAt, by decide, by decide⟩
theorem sv_X11_word_86 : SiteV M_X11_word 86 M_X9_archiveAt 1 := ⟨tw857, tw858, tw859, np_X9_archiveAt, by decide, by decide⟩
theorem sv_X11_word_193 : SiteV M_X11_word 193 M_X0_hasWord 1 := ⟨tw1011, tw1012, tw1013, np_X0_hasWord, by decide, by decide⟩
theorem sv_X11_word_196 : SiteV M_X11_word 196 M_X0_wordAt 1 := ⟨tw1015, tw803, tw804, np_X0_wordAt, by decide, by decide⟩
theorem ss_X11_word_199 : SiteS M_X11_word 199 M_X5_wordNumber 1 := ⟨tw1016, tw991, np_X5_wordNumber, by decide, by decide⟩
theorem sv_X11_word_202 : SiteV M_X11_word 202 M_X0_slotsOfWord 1 := ⟨tw1017, tw1018, tw1019, np_X0_slotsOfWord, by decide, by decide⟩
theorem ss_X11_word_206 : SiteS M_X11_word 206 M_J13_bitCount_95d88 1 := ⟨tw1021, tw1022, np_J13_bitCount_95d88, by decide, by decide⟩
theorem sv_X11_word_211 : SiteV M_X11_word 211 M_X2_documentsOfWord 2 := ⟨tw1027, tw1028, tw1029, np_X2_documentsOfWord, by decide, by decide⟩
theorem sv_X11_word_214 : SiteV M_X11_word 214 M_X2_firstDateOfWord 2 := ⟨tw1032, tw1033, tw1034, np_X2_firstDateOfWord, by decide, by decide⟩
theorem sv_X11_word_217 : SiteV M_X11_word 217 M_X2_spread 2 := ⟨tw1037, tw1038, tw1039, np_X2_spread, by decide, by decide⟩
theorem sv_X12_addWord_139 : SiteV M_X12_addWord 139 M_X12_latest 1 := ⟨tw1566, tw1568, tw60, np_X12_latest, by decide, by decide⟩
theorem ss_X12_again_72 : SiteS M_X12_again 72 M_X12_in 3 := ⟨tw1498, tw1499, np_X12_in, by decide, by decide⟩
theorem sv_X12_again_483 : SiteV M_X12_again 483 M_X12_copyAll 2 := ⟨tw1989, tw1991, tw136, np_X12_copyAll, by decide, by decide⟩
theorem sv_X12_allLines_112 : SiteV M_X12_allLines 112 M_X12_fails 0 := ⟨tw1554, tw1556, tw58, np_X12_fails, by decide, by decide⟩
theorem sv_X12_allLines_124 : SiteV M_X12_allLines 124 M_X12_token 0 := ⟨tw1513, tw1515, tw49, np_X12_token, by decide, by decide⟩
theorem sv_X12_allLines_230 : SiteV M_X12_allLines 230 M_X12_archiveLine 2 := ⟨tw1525, tw1527, tw52, np_X12_archiveLine, by decide, by decide⟩
theorem sv_X12_allLines_234 : SiteV M_X12_allLines 234 M_X12_askingLine 2 := ⟨tw1612, tw1614, tw70, np_X12_askingLine, by decide, by decide⟩
theorem sv_X12_allLines_237 : SiteV M_X12_allLines 237 M_X12_huntLine 2 := ⟨tw1632, tw1634, tw73, np_X12_huntLine, by decide, by decide⟩
theorem sv_X12_archive_313 : SiteV M_X12_archive 313 M_X12_hand 1 := ⟨tw1650, tw1652, tw75, np_X12_hand, by decide, by decide⟩
theorem sv_X12_archive_316 : SiteV M_X12_archive 316 M_X12_ofDoc 2 := ⟨tw1654, tw1656, tw76, np_X12_ofDoc, by decide, by decide⟩
theorem sv_X12_archive_319 : SiteV M_X12_archive 319 M_X12_versionsAll 0 := ⟨tw1723, tw1725, tw91, np_X12_versionsAll, by decide, by decide⟩
theorem sv_X12_archive_322 : SiteV M_X12_archive 322 M_X12_sizeAll 0 := ⟨tw1727, tw1729, tw92, np_X12_sizeAll, by decide, by decide⟩
theorem sv_X12_archive_325 : SiteV M_X12_archive 325 M_X12_postings 0 := ⟨tw1731, tw1733, tw93, np_X12_postings, by decide, by decide⟩
theorem sv_X12_archive_328 : SiteV M_X12_archive 328 M_X12_longest 0 := ⟨tw1738, tw1740, tw94, np_X12_longest, by decide, by decide⟩
theorem sv_X12_archive_331 : SiteV M_X12_archive 331 M_X12_twins 0 := ⟨tw1742, tw1744, tw95, np_X12_twins, by decide, by decide⟩
theorem sv_X12_archive_334 : SiteV M_X12_archive 334 M_X12_layWords 0 := ⟨tw1750, tw1752, tw97, np_X12_layWords, by decide, by decide⟩
theorem sv_X12_archiveLine_112 : SiteV M_X12_archiveLine 112 M_X12_fails 0 := ⟨tw1554, tw1556, tw58, np_X12_fails, by decide, by decide⟩
theorem sv_X12_archiveLine_193 : SiteV M_X12_archiveLine 193 M_X12_changeBy 1 := ⟨tw1529, tw1531, tw53, np_X12_changeBy, by decide, by decide⟩
theorem sv_X12_archiveLine_198 : SiteV M_X12_archiveLine 198 M_X12_docLine 1 := ⟨tw1538, tw1540, tw54, np_X12_docLine, by decide, by decide⟩
theorem sv_X12_archiveLine_201 : SiteV M_X12_archiveLine 201 M_X12_changeLine 2 := ⟨tw1584, tw1586, tw63, np_X12_changeLine, by decide, by decide⟩
theorem sv_X12_areAlike_269 : SiteV M_X12_areAlike 269 M_X12_longOf 2 := ⟨tw1678, tw1680, tw82, np_X12_longOf, by decide, by decide⟩
theorem sv_X12_areAlike_275 : SiteV M_X12_areAlike 275 M_X12_wordAt 3 := ⟨tw1715, tw1717, tw89, np_X12_wordAt, by decide, by decide⟩
theorem ss_X12_areNear_72 : SiteS M_X12_areNear 72 M_X12_in 3 := ⟨tw1498, tw1499, np_X12_in, by decide, by decide⟩
theorem sv_X12_areNear_269 : SiteV M_X12_areNear 269 M_X12_longOf 2 := ⟨tw1678, tw1680, tw82, np_X12_longOf, by decide, by decide⟩
theorem sv_X12_areNear_275 : SiteV M_X12_areNear 275 M_X12_wordAt 3 := ⟨tw1715, tw1717, tw89, np_X12_wordAt, by decide, by decide⟩
theorem sv_X12_areNear_371 : SiteV M_X12_areNear 371 M_X12_ofAsking 2 := ⟨tw1828, tw1830, tw107, np_X12_ofAsking, by decide, by decide⟩
theorem ss_X12_asOf_64 : SiteS M_X12_asOf 64 M_X12_has 2 := ⟨tw1694, tw1695, np_X12_has, by decide, by decide⟩
theorem ss_X12_asOf_146 : SiteS M_X12_asOf 146 M_X12_at 2 := ⟨tw1570, tw1571, np_X12_at, by decide, by decide⟩
theorem sv_X12_asOf_259 : SiteV M_X12_asOf 259 M_X12_versions 1 := ⟨tw1662, tw1664, tw78, np_X12_versions, by decide, by decide⟩
theorem sv_X12_askWhere_284 : SiteV M_X12_askWhere 284 M_X12_isVersion 2 := ⟨tw1746, tw1748, tw96, np_X12_isVersion, by decide, by decide⟩
theorem ss_X12_askWhere_297 : SiteS M_X12_askWhere 297 M_X12_greater 2 := ⟨tw1697, tw1698, np_X12_greater, by decide, by decide⟩
theorem sv_X12_askingLine_112 : SiteV M_X12_askingLine 112 M_X12_fails 0 := ⟨tw1554, tw1556, tw58, np_X12_fails, by decide, by decide⟩
theorem sv_X12_askingLine_116 : SiteV M_X12_askingLine 116 M_X12_addsFault 2 := ⟨tw1542, tw1544, tw55, np_X12_addsFault, by decide, by decide⟩
theorem sv_X12_askingLine_124 : SiteV M_X12_askingLine 124 M_X12_token 0 := ⟨tw1513, tw1515, tw49, np_X12_token, by decide, by decide⟩
theorem ss_X12_askingLine_150 : SiteS M_X12_askingLine 150 M_X12_lesser 2 := ⟨tw1577, tw1578, np_X12_lesser, by decide, by decide⟩
theorem sv_X12_askingLine_220 : SiteV M_X12_askingLine 220 M_X12_askingBy 1 := ⟨tw1616, tw1618, tw71, np_X12_askingBy, by decide, by decide⟩
theorem sv_X12_askingLine_223 : SiteV M_X12_askingLine 223 M_X12_readAsking 2 := ⟨tw1628, tw1630, tw72, np_X12_readAsking, by decide, by decide⟩
theorem sv_X12_beginVersion_139 : SiteV M_X12_beginVersion 139 M_X12_latest 1 := ⟨tw1566, tw1568, tw60, np_X12_latest, by decide, by decide⟩
theorem sv_X12_beginsAt_269 : SiteV M_X12_beginsAt 269 M_X12_longOf 2 := ⟨tw1678, tw1680, tw82, np_X12_longOf, by decide, by decide⟩
theorem sv_X12_beginsAt_275 : SiteV M_X12_beginsAt 275 M_X12_wordAt 3 := ⟨tw1715, tw1717, tw89, np_X12_wordAt, by decide, by decide⟩
theorem sv_X12_beginsAt_371 : SiteV M_X12_beginsAt 371 M_X12_ofAsking 2 := ⟨tw1828, tw1830, tw107, np_X12_ofAsking, by decide, by decide⟩
theorem ss_X12_behindOf_64 : SiteS M_X12_behindOf 64 M_X12_has 2 := ⟨tw1694, tw1695, np_X12_has, by decide, by decide⟩
theorem sv_X12_behindOf_259 : SiteV M_X12_behindOf 259 M_X12_versions 1 := ⟨tw1662, tw1664, tw78, np_X12_versions, by decide, by decide⟩
theorem sv_X12_behindOf_262 : SiteV M_X12_behindOf 262 M_X12_tokenAt 3 := ⟨tw1682, tw1684, tw83, np_X12_tokenAt, by decide, by decide⟩
theorem sv_X12_behindOf_269 : SiteV M_X12_behindOf 269 M_X12_longOf 2 := ⟨tw1678, tw1680, tw82, np_X12_longOf, by decide, by decide⟩
theorem sv_X12_behindOf_272 : SiteV M_X12_behindOf 272 M_X12_placeOf 3 := ⟨tw1674, tw1676, tw81, np_X12_placeOf, by decide, by decide⟩
theorem sv_X12_behindOf_278 : SiteV M_X12_behindOf 278 M_X12_whereIs 1 := ⟨tw1670, tw1672, tw80, np_X12_whereIs, by decide, by decide⟩
theorem sv_X12_best_395 : SiteV M_X12_best 395 M_X12_layHeld 2 := ⟨tw1836, tw1838, tw108, np_X12_layHeld, by decide, by decide⟩
theorem sv_X12_best_422 : SiteV M_X12_best 422 M_X12_bestAsking 0 := ⟨tw1900, tw1902, tw120, np_X12_bestAsking, by decide, by decide⟩
theorem sv_X12_best_425 : SiteV M_X12_best 425 M_X12_samePairs 0 := ⟨tw1904, tw1906, tw121, np_X12_samePairs, by decide, by decide⟩
theorem sv_X12_bestAsking_377 : SiteV M_X12_bestAsking 377 M_X12_askedMany 0 := ⟨tw1820, tw1822, tw105, np_X12_askedMany, by decide, by decide⟩
theorem sv_X12_bestAsking_416 : SiteV M_X12_bestAsking 416 M_X12_versionsBy 1 := ⟨tw1892, tw1894, tw119, np_X12_versionsBy, by decide, by decide⟩
theorem sv_X12_changeLine_116 : SiteV M_X12_changeLine 116 M_X12_addsFault 2 := ⟨tw1542, tw1544, tw55, np_X12_addsFault, by decide, by decide⟩
theorem sv_X12_changeLine_124 : SiteV M_X12_changeLine 124 M_X12_token 0 := ⟨tw1513, tw1515, tw49, np_X12_token, by decide, by decide⟩
theorem sv_X12_changeLine_183 : SiteV M_X12_changeLine 183 M_X12_readChange 1 := ⟨tw1588, tw1590, tw64, np_X12_readChange, by decide, by decide⟩
theorem sv_X12_changeLine_187 : SiteV M_X12_changeLine 187 M_X12_isThere 1 := ⟨tw1600, tw1602, tw67, np_X12_isThere, by decide, by decide⟩
theorem sv_X12_changeLine_190 : SiteV M_X12_changeLine 190 M_X12_makeVersion 1 := ⟨tw1604, tw1606, tw68, np_X12_makeVersion, by decide, by decide⟩
theorem sv_X12_changes_401 : SiteV M_X12_changes 401 M_X12_asOf 2 := ⟨tw1872, tw1874, tw114, np_X12_asOf, by decide, by decide⟩
theorem sv_X12_common_269 : SiteV M_X12_common 269 M_X12_longOf 2 := ⟨tw1678, tw1680, tw82, np_X12_longOf, by decide, by decide⟩
theorem sv_X12_common_275 : SiteV M_X12_common 275 M_X12_wordAt 3 := ⟨tw1715, tw1717, tw89, np_X12_wordAt, by decide, by decide⟩
theorem sv_X12_common_284 : SiteV M_X12_common 284 M_X12_isVersion 2 := ⟨tw1746, tw1748, tw96, np_X12_isVersion, by decide, by decide⟩
theorem ss_X12_common_297 : SiteS M_X12_common 297 M_X12_greater 2 := ⟨tw1697, tw1698, np_X12_greater, by decide, by decide⟩
theorem sv_X12_common_313 : SiteV M_X12_common 313 M_X12_hand 1 := ⟨tw1650, tw1652, tw75, np_X12_hand, by decide, by decide⟩
theorem ss_X12_copyAll_68 : SiteS M_X12_copyAll 68 M_X12_copyRow 4 := ⟨tw1993, tw1994, np_X12_copyRow, by decide, by decide⟩
theorem ss_X12_count_72 : SiteS M_X12_count 72 M_X12_in 3 := ⟨tw1498, tw1499, np_X12_in, by decide, by decide⟩
theorem sv_X12_dated_284 : SiteV M_X12_dated 284 M_X12_isVersion 2 := ⟨tw1746, tw1748, tw96, np_X12_isVersion, by decide, by decide⟩
theorem sv_X12_dated_313 : SiteV M_X12_dated 313 M_X12_hand 1 := ⟨tw1650, tw1652, tw75, np_X12_hand, by decide, by decide⟩
theorem sv_X12_docLine_116 : SiteV M_X12_docLine 116 M_X12_addsFault 2 := ⟨tw1542, tw1544, tw55, np_X12_addsFault, by decide, by decide⟩
theorem sv_X12_docLine_124 : SiteV M_X12_docLine 124 M_X12_token 0 := ⟨tw1513, tw1515, tw49, np_X12_token, by decide, by decide⟩
theorem sv_X12_docLine_153 : SiteV M_X12_docLine 153 M_X12_takeWords 1 := ⟨tw1546, tw1548, tw56, np_X12_takeWords, by decide, by decide⟩
theorem sv_X12_docLine_156 : SiteV M_X12_docLine 156 M_X12_beginVersion 1 := ⟨tw1562, tw1564, tw59, np_X12_beginVersion, by decide, by decide⟩
theorem sv_X12_docLine_159 : SiteV M_X12_docLine 159 M_X12_newToken 2 := ⟨tw1573, tw1575, tw61, np_X12_newToken, by decide, by decide⟩
theorem sv_X12_docLine_162 : SiteV M_X12_docLine 162 M_X12_addWord 2 := ⟨tw1580, tw1582, tw62, np_X12_addWord, by decide, by decide⟩
theorem sv_X12_docsBy_259 : SiteV M_X12_docsBy 259 M_X12_versions 1 := ⟨tw1662, tw1664, tw78, np_X12_versions, by decide, by decide⟩
theorem ss_X12_docsBy_300 : SiteS M_X12_docsBy 300 M_X12_ones 1 := ⟨tw1704, tw1705, np_X12_ones, by decide, by decide⟩
theorem sv_X12_drawChange_259 : SiteV M_X12_drawChange 259 M_X12_versions 1 := ⟨tw1662, tw1664, tw78, np_X12_versions, by decide, by decide⟩
theorem sv_X12_drawChange_266 : SiteV M_X12_drawChange 266 M_X12_wordOf 1 := ⟨tw1719, tw1721, tw90, np_X12_wordOf, by decide, by decide⟩
theorem sv_X12_drawChange_269 : SiteV M_X12_drawChange 269 M_X12_longOf 2 := ⟨tw1678, tw1680, tw82, np_X12_longOf, by decide, by decide⟩
theorem sv_X12_drawChange_468 : SiteV M_X12_drawChange 468 M_X12_draw 1 := ⟨tw1964, tw1966, tw132, np_X12_draw, by decide, by decide⟩
theorem sv_X12_drawChange_471 : SiteV M_X12_drawChange 471 M_X12_firstToken 1 := ⟨tw1969, tw1971, tw133, np_X12_firstToken, by decide, by decide⟩
theorem sv_X12_drawChange_474 : SiteV M_X12_drawChange 474 M_X12_makes 1 := ⟨tw1973, tw1975, tw134, np_X12_makes, by decide, by decide⟩
theorem ss_X12_drawn_72 : SiteS M_X12_drawn 72 M_X12_in 3 := ⟨tw1498, tw1499, np_X12_in, by decide, by decide⟩
theorem sv_X12_drawn_256 : SiteV M_X12_drawn 256 M_X12_isDoc 1 := ⟨tw1658, tw1660, tw77, np_X12_isDoc, by decide, by decide⟩
theorem sv_X12_drawn_259 : SiteV M_X12_drawn 259 M_X12_versions 1 := ⟨tw1662, tw1664, tw78, np_X12_versions, by decide, by decide⟩
theorem sv_X12_drawn_269 : SiteV M_X12_drawn 269 M_X12_longOf 2 := ⟨tw1678, tw1680, tw82, np_X12_longOf, by decide, by decide⟩
theorem sv_X12_drawn_275 : SiteV M_X12_drawn 275 M_X12_wordAt 3 := ⟨tw1715, tw1717, tw89, np_X12_wordAt, by decide, by decide⟩
theorem sv_X12_drawn_313 : SiteV M_X12_drawn 313 M_X12_hand 1 := ⟨tw1650, tw1652, tw75, np_X12_hand, by decide, by decide⟩
theorem sv_X12_drawn_477 : SiteV M_X12_drawn 477 M_X12_drawChange 0 := ⟨tw1960, tw1962, tw131, np_X12_drawChange, by decide, by decide⟩
theorem sv_X12_drawn_480 : SiteV M_X12_drawn 480 M_X12_tokensOf 1 := ⟨tw1977, tw1979, tw135, np_X12_tokensOf, by decide, by decide⟩
theorem ss_X12_end_72 : SiteS M_X12_end 72 M_X12_in 3 := ⟨tw1498, tw1499, np_X12_in, by decide, by decide⟩
theorem ss_X12_fact_72 : SiteS M_X12_fact 72 M_X12_in 3 := ⟨tw1498, tw1499, np_X12_in, by decide, by decide⟩
theorem sv_X12_fact_431 : SiteV M_X12_fact 431 M_X12_hasHunt 1 := ⟨tw1920, tw1922, tw123, np_X12_hasHunt, by decide, by decide⟩
theorem sv_X12_fact_434 : SiteV M_X12_fact 434 M_X12_facts 0 := ⟨tw1924, tw1926, tw124, np_X12_facts, by decide, by decide⟩
theorem sv_X12_fact_437 : SiteV M_X12_fact 437 M_X12_factOf 2 := ⟨tw1928, tw1930, tw125, np_X12_factOf, by decide, by decide⟩
theorem sv_X12_feed_76 : SiteV M_X12_feed 76 M_X12_four 1 := ⟨tw1490, tw1492, tw46, np_X12_four, by decide, by decide⟩
theorem sv_X12_findWords_334 : SiteV M_X12_findWords 334 M_X12_layWords 0 := ⟨tw1750, tw1752, tw97, np_X12_layWords, by decide, by decide⟩
theorem sv_X12_findWords_449 : SiteV M_X12_findWords 449 M_X12_isSo 1 := ⟨tw1940, tw1942, tw127, np_X12_isSo, by decide, by decide⟩
theorem sv_X12_findWords_452 : SiteV M_X12_findWords 452 M_X12_noteFit 2 := ⟨tw1944, tw1946, tw128, np_X12_noteFit, by decide, by decide⟩
theorem ss_X12_firstIn_64 : SiteS M_X12_firstIn 64 M_X12_has 2 := ⟨tw1694, tw1695, np_X12_has, by decide, by decide⟩
theorem sv_X12_fits_313 : SiteV M_X12_fits 313 M_X12_hand 1 := ⟨tw1650, tw1652, tw75, np_X12_hand, by decide, by decide⟩
theorem sv_X12_fits_431 : SiteV M_X12_fits 431 M_X12_hasHunt 1 := ⟨tw1920, tw1922, tw123, np_X12_hasHunt, by decide, by decide⟩
theorem sv_X12_fits_455 : SiteV M_X12_fits 455 M_X12_findWords 1 := ⟨tw1936, tw1938, tw126, np_X12_findWords, by decide, by decide⟩
theorem sv_X12_fits_458 : SiteV M_X12_fits 458 M_X12_sureLetter 0 := ⟨tw1948, tw1950, tw129, np_X12_sureLetter, by decide, by decide⟩
theorem sv_X12_fits_461 : SiteV M_X12_fits 461 M_X12_askWhere 0 := ⟨tw1952, tw1954, tw130, np_X12_askWhere, by decide, by decide⟩
theorem sv_X12_found_395 : SiteV M_X12_found 395 M_X12_layHeld 2 := ⟨tw1836, tw1838, tw108, np_X12_layHeld, by decide, by decide⟩
theorem sv_X12_found_398 : SiteV M_X12_found 398 M_X12_isAsking 1 := ⟨tw1856, tw1858, tw113, np_X12_isAsking, by decide, by decide⟩
theorem sv_X12_found_401 : SiteV M_X12_found 401 M_X12_asOf 2 := ⟨tw1872, tw1874, tw114, np_X12_asOf, by decide, by decide⟩
theorem sv_X12_found_407 : SiteV M_X12_found 407 M_X12_changes 2 := ⟨tw1876, tw1878, tw115, np_X12_changes, by decide, by decide⟩
theorem sv_X12_found_410 : SiteV M_X12_found 410 M_X12_rank 2 := ⟨tw1880, tw1882, tw116, np_X12_rank, by decide, by decide⟩
theorem sv_X12_found_413 : SiteV M_X12_found 413 M_X12_docsBy 2 := ⟨tw1888, tw1890, tw118, np_X12_docsBy, by decide, by decide⟩
theorem sv_X12_found_416 : SiteV M_X12_found 416 M_X12_versionsBy 1 := ⟨tw1892, tw1894, tw119, np_X12_versionsBy, by decide, by decide⟩
theorem sv_X12_fresh_262 : SiteV M_X12_fresh 262 M_X12_tokenAt 3 := ⟨tw1682, tw1684, tw83, np_X12_tokenAt, by decide, by decide⟩
theorem sv_X12_fresh_269 : SiteV M_X12_fresh 269 M_X12_longOf 2 := ⟨tw1678, tw1680, tw82, np_X12_longOf, by decide, by decide⟩
theorem sv_X12_fresh_278 : SiteV M_X12_fresh 278 M_X12_whereIs 1 := ⟨tw1670, tw1672, tw80, np_X12_whereIs, by decide, by decide⟩
theorem sv_X12_hand_243 : SiteV M_X12_hand 243 M_X12_is 2 := ⟨tw1505, tw1507, tw47, np_X12_is, by decide, by decide⟩
theorem sv_X12_hasAhead_278 : SiteV M_X12_hasAhead 278 M_X12_whereIs 1 := ⟨tw1670, tw1672, tw80, np_X12_whereIs, by decide, by decide⟩
theorem sv_X12_hasAhead_291 : SiteV M_X12_hasAhead 291 M_X12_behindOf 3 := ⟨tw1690, tw1692, tw85, np_X12_behindOf, by decide, by decide⟩
theorem sv_X12_hasAsking_243 : SiteV M_X12_hasAsking 243 M_X12_is 2 := ⟨tw1505, tw1507, tw47, np_X12_is, by decide, by decide⟩
theorem sv_X12_hasHunt_243 : SiteV M_X12_hasHunt 243 M_X12_is 2 := ⟨tw1505, tw1507, tw47, np_X12_is, by decide, by decide⟩
theorem ss_X12_holds_64 : SiteS M_X12_holds 64 M_X12_has 2 := ⟨tw1694, tw1695, np_X12_has, by decide, by decide⟩
theorem sv_X12_holds_284 : SiteV M_X12_holds 284 M_X12_isVersion 2 := ⟨tw1746, tw1748, tw96, np_X12_isVersion, by decide, by decide⟩
theorem sv_X12_holds_395 : SiteV M_X12_holds 395 M_X12_layHeld 2 := ⟨tw1836, tw1838, tw108, np_X12_layHeld, by decide, by decide⟩
theorem sv_X12_holds_398 : SiteV M_X12_holds 398 M_X12_isAsking 1 := ⟨tw1856, tw1858, tw113, np_X12_isAsking, by decide, by decide⟩
theorem ss_X12_holdsBy_64 : SiteS M_X12_holdsBy 64 M_X12_has 2 := ⟨tw1694, tw1695, np_X12_has, by decide, by decide⟩
theorem sv_X12_holdsBy_362 : SiteV M_X12_holdsBy 362 M_X12_timesIn 3 := ⟨tw1796, tw1798, tw103, np_X12_timesIn, by decide, by decide⟩
theorem sv_X12_holdsBy_371 : SiteV M_X12_holdsBy 371 M_X12_ofAsking 2 := ⟨tw1828, tw1830, tw107, np_X12_ofAsking, by decide, by decide⟩
theorem sv_X12_holdsBy_386 : SiteV M_X12_holdsBy 386 M_X12_timesOf 3 := ⟨tw1844, tw1846, tw110, np_X12_timesOf, by decide, by decide⟩
theorem sv_X12_holdsBy_389 : SiteV M_X12_holdsBy 389 M_X12_areNear 3 := ⟨tw1852, tw1854, tw112, np_X12_areNear, by decide, by decide⟩
theorem sv_X12_huntLine_112 : SiteV M_X12_huntLine 112 M_X12_fails 0 := ⟨tw1554, tw1556, tw58, np_X12_fails, by decide, by decide⟩
theorem sv_X12_huntLine_116 : SiteV M_X12_huntLine 116 M_X12_addsFault 2 := ⟨tw1542, tw1544, tw55, np_X12_addsFault, by decide, by decide⟩
theorem sv_X12_huntLine_124 : SiteV M_X12_huntLine 124 M_X12_token 0 := ⟨tw1513, tw1515, tw49, np_X12_token, by decide, by decide⟩
theorem ss_X12_huntLine_150 : SiteS M_X12_huntLine 150 M_X12_lesser 2 := ⟨tw1577, tw1578, np_X12_lesser, by decide, by decide⟩
theorem sv_X12_huntLine_177 : SiteV M_X12_huntLine 177 M_X12_take 3 := ⟨tw1592, tw1594, tw65, np_X12_take, by decide, by decide⟩
theorem ss_X12_image_72 : SiteS M_X12_image 72 M_X12_in 3 := ⟨tw1498, tw1499, np_X12_in, by decide, by decide⟩
theorem sv_X12_image_483 : SiteV M_X12_image 483 M_X12_copyAll 2 := ⟨tw1989, tw1991, tw136, np_X12_copyAll, by decide, by decide⟩
theorem sv_X12_implies_395 : SiteV M_X12_implies 395 M_X12_layHeld 2 := ⟨tw1836, tw1838, tw108, np_X12_layHeld, by decide, by decide⟩
theorem sv_X12_implies_398 : SiteV M_X12_implies 398 M_X12_isAsking 1 := ⟨tw1856, tw1858, tw113, np_X12_isAsking, by decide, by decide⟩
theorem sv_X12_implies_419 : SiteV M_X12_implies 419 M_X12_isWithin 2 := ⟨tw1908, tw1910, tw122, np_X12_isWithin, by decide, by decide⟩
theorem so_X12_init_1 : Cond.methodLink (mY M_X12_init).cls 1 objectInit ∈ GW ∧ Cond.instanceMethod objectInit ∈ GW ∧ Cond.code objectInit ⟨#[0xb1]⟩ 1 none ∈ GW ∧ 1 ≤ mF M_X12_init ∧ 20 ≤ mW M_X12_init := ⟨tw1372, tw165, tw166, by decide, by decide⟩
theorem ss_X12_is_72 : SiteS M_X12_is 72 M_X12_in 3 := ⟨tw1498, tw1499, np_X12_in, by decide, by decide⟩
theorem ss_X12_isAsking_72 : SiteS M_X12_isAsking 72 M_X12_in 3 := ⟨tw1498, tw1499, np_X12_in, by decide, by decide⟩
theorem sv_X12_isAsking_377 : SiteV M_X12_isAsking 377 M_X12_askedMany 0 := ⟨tw1820, tw1822, tw105, np_X12_askedMany, by decide, by decide⟩
theorem ss_X12_isDoc_72 : SiteS M_X12_isDoc 72 M_X12_in 3 := ⟨tw1498, tw1499, np_X12_in, by decide, by decide⟩
theorem sv_X12_isSo_284 : SiteV M_X12_isSo 284 M_X12_isVersion 2 := ⟨tw1746, tw1748, tw96, np_X12_isVersion, by decide, by decide⟩
theorem sv_X12_isSo_362 : SiteV M_X12_isSo 362 M_X12_timesIn 3 := ⟨tw1796, tw1798, tw103, np_X12_timesIn, by decide, by decide⟩
theorem sv_X12_isSo_434 : SiteV M_X12_isSo 434 M_X12_facts 0 := ⟨tw1924, tw1926, tw124, np_X12_facts, by decide, by decide⟩
theorem sv_X12_isSo_437 : SiteV M_X12_isSo 437 M_X12_factOf 2 := ⟨tw1928, tw1930, tw125, np_X12_factOf, by decide, by decide⟩
theorem sv_X12_isThere_139 : SiteV M_X12_isThere 139 M_X12_latest 1 := ⟨tw1566, tw1568, tw60, np_X12_latest, by decide, by decide⟩
theorem ss_X12_isVersion_72 : SiteS M_X12_isVersion 72 M_X12_in 3 := ⟨tw1498, tw1499, np_X12_in, by decide, by decide⟩
theorem sv_X12_isVersion_256 : SiteV M_X12_isVersion 256 M_X12_isDoc 1 := ⟨tw1658, tw1660, tw77, np_X12_isDoc, by decide, by decide⟩
theorem sv_X12_isVersion_259 : SiteV M_X12_isVersion 259 M_X12_versions 1 := ⟨tw1662, tw1664, tw78, np_X12_versions, by decide, by decide⟩
theorem sv_X12_keptIn_259 : SiteV M_X12_keptIn 259 M_X12_versions 1 := ⟨tw1662, tw1664, tw78, np_X12_versions, by decide, by decide⟩
theorem sv_X12_keptIn_278 : SiteV M_X12_keptIn 278 M_X12_whereIs 1 := ⟨tw1670, tw1672, tw80, np_X12_whereIs, by decide, by decide⟩
theorem ss_X12_keptIn_300 : SiteS M_X12_keptIn 300 M_X12_ones 1 := ⟨tw1704, tw1705, np_X12_ones, by decide, by decide⟩
theorem ss_X12_lastIn_64 : SiteS M_X12_lastIn 64 M_X12_has 2 := ⟨tw1694, tw1695, np_X12_has, by decide, by decide⟩
theorem ss_X12_latest_146 : SiteS M_X12_latest 146 M_X12_at 2 := ⟨tw1570, tw1571, np_X12_at, by decide, by decide⟩
theorem sv_X12_layHeld_256 : SiteV M_X12_layHeld 256 M_X12_isDoc 1 := ⟨tw1658, tw1660, tw77, np_X12_isDoc, by decide, by decide⟩
theorem sv_X12_layHeld_259 : SiteV M_X12_layHeld 259 M_X12_versions 1 := ⟨tw1662, tw1664, tw78, np_X12_versions, by decide, by decide⟩
theorem sv_X12_layHeld_313 : SiteV M_X12_layHeld 313 M_X12_hand 1 := ⟨tw1650, tw1652, tw75, np_X12_hand, by decide, by decide⟩
theorem sv_X12_layHeld_374 : SiteV M_X12_layHeld 374 M_X12_hasAsking 1 := ⟨tw1816, tw1818, tw104, np_X12_hasAsking, by decide, by decide⟩
theorem sv_X12_layHeld_377 : SiteV M_X12_layHeld 377 M_X12_askedMany 0 := ⟨tw1820, tw1822, tw105, np_X12_askedMany, by decide, by decide⟩
theorem sv_X12_layHeld_392 : SiteV M_X12_layHeld 392 M_X12_holdsBy 3 := ⟨tw1840, tw1842, tw109, np_X12_holdsBy, by decide, by decide⟩
theorem sv_X12_layWords_266 : SiteV M_X12_layWords 266 M_X12_wordOf 1 := ⟨tw1719, tw1721, tw90, np_X12_wordOf, by decide, by decide⟩
theorem ss_X12_layWords_358 : SiteS M_X12_layWords 358 M_X12_widened 1 := ⟨tw1754, tw1755, np_X12_widened, by decide, by decide⟩
theorem ss_X12_life_72 : SiteS M_X12_life 72 M_X12_in 3 := ⟨tw1498, tw1499, np_X12_in, by decide, by decide⟩
theorem sv_X12_life_262 : SiteV M_X12_life 262 M_X12_tokenAt 3 := ⟨tw1682, tw1684, tw83, np_X12_tokenAt, by decide, by decide⟩
theorem sv_X12_life_269 : SiteV M_X12_life 269 M_X12_longOf 2 := ⟨tw1678, tw1680, tw82, np_X12_longOf, by decide, by decide⟩
theorem sv_X12_life_278 : SiteV M_X12_life 278 M_X12_whereIs 1 := ⟨tw1670, tw1672, tw80, np_X12_whereIs, by decide, by decide⟩
theorem ss_X12_life_281 : SiteS M_X12_life 281 M_X12_rowsIn 1 := ⟨tw1735, tw1736, np_X12_rowsIn, by decide, by decide⟩
theorem sv_X12_life_284 : SiteV M_X12_life 284 M_X12_isVersion 2 := ⟨tw1746, tw1748, tw96, np_X12_isVersion, by decide, by decide⟩
theorem ss_X12_life_300 : SiteS M_X12_life 300 M_X12_ones 1 := ⟨tw1704, tw1705, np_X12_ones, by decide, by decide⟩
theorem sv_X12_life_313 : SiteV M_X12_life 313 M_X12_hand 1 := ⟨tw1650, tw1652, tw75, np_X12_hand, by decide, by decide⟩
theorem ss_X12_life_352 : SiteS M_X12_life 352 M_X12_firstIn 1 := ⟨tw1781, tw1782, np_X12_firstIn, by decide, by decide⟩
theorem ss_X12_life_355 : SiteS M_X12_life 355 M_X12_lastIn 1 := ⟨tw1784, tw1785, np_X12_lastIn, by decide, by decide⟩
theorem ss_X12_longOf_146 : SiteS M_X12_longOf 146 M_X12_at 2 := ⟨tw1570, tw1571, np_X12_at, by decide, by decide⟩
theorem sv_X12_longest_259 : SiteV M_X12_longest 259 M_X12_versions 1 := ⟨tw1662, tw1664, tw78, np_X12_versions, by decide, by decide⟩
theorem sv_X12_longest_269 : SiteV M_X12_longest 269 M_X12_longOf 2 := ⟨tw1678, tw1680, tw82, np_X12_longOf, by decide, by decide⟩
theorem sv_X12_lost_262 : SiteV M_X12_lost 262 M_X12_tokenAt 3 := ⟨tw1682, tw1684, tw83, np_X12_tokenAt, by decide, by decide⟩
theorem sv_X12_lost_269 : SiteV M_X12_lost 269 M_X12_longOf 2 := ⟨tw1678, tw1680, tw82, np_X12_longOf, by decide, by decide⟩
theorem sv_X12_lost_272 : SiteV M_X12_lost 272 M_X12_placeOf 3 := ⟨tw1674, tw1676, tw81, np_X12_placeOf, by decide, by decide⟩
theorem ss_X12_makeVersion_72 : SiteS M_X12_makeVersion 72 M_X12_in 3 := ⟨tw1498, tw1499, np_X12_in, by decide, by decide⟩
theorem sv_X12_makeVersion_139 : SiteV M_X12_makeVersion 139 M_X12_latest 1 := ⟨tw1566, tw1568, tw60, np_X12_latest, by decide, by decide⟩
theorem ss_X12_makeVersion_146 : SiteS M_X12_makeVersion 146 M_X12_at 2 := ⟨tw1570, tw1571, np_X12_at, by decide, by decide⟩
theorem sv_X12_makeVersion_156 : SiteV M_X12_makeVersion 156 M_X12_beginVersion 1 := ⟨tw1562, tw1564, tw59, np_X12_beginVersion, by decide, by decide⟩
theorem sv_X12_makeVersion_159 : SiteV M_X12_makeVersion 159 M_X12_newToken 2 := ⟨tw1573, tw1575, tw61, np_X12_newToken, by decide, by decide⟩
theorem sv_X12_makeVersion_162 : SiteV M_X12_makeVersion 162 M_X12_addWord 2 := ⟨tw1580, tw1582, tw62, np_X12_addWord, by decide, by decide⟩
theorem sv_X12_makeVersion_173 : SiteV M_X12_makeVersion 173 M_X12_moves 3 := ⟨tw1608, tw1610, tw69, np_X12_moves, by decide, by decide⟩
theorem sv_X12_makes_187 : SiteV M_X12_makes 187 M_X12_isThere 1 := ⟨tw1600, tw1602, tw67, np_X12_isThere, by decide, by decide⟩
theorem sv_X12_makes_190 : SiteV M_X12_makes 190 M_X12_makeVersion 1 := ⟨tw1604, tw1606, tw68, np_X12_makeVersion, by decide, by decide⟩
theorem sv_X12_makes_259 : SiteV M_X12_makes 259 M_X12_versions 1 := ⟨tw1662, tw1664, tw78, np_X12_versions, by decide, by decide⟩
theorem sv_X12_makes_269 : SiteV M_X12_makes 269 M_X12_longOf 2 := ⟨tw1678, tw1680, tw82, np_X12_longOf, by decide, by decide⟩
theorem sv_X12_moves_162 : SiteV M_X12_moves 162 M_X12_addWord 2 := ⟨tw1580, tw1582, tw62, np_X12_addWord, by decide, by decide⟩
theorem ss_X12_newToken_150 : SiteS M_X12_newToken 150 M_X12_lesser 2 := ⟨tw1577, tw1578, np_X12_lesser, by decide, by decide⟩
theorem sv_X12_noteFit_284 : SiteV M_X12_noteFit 284 M_X12_isVersion 2 := ⟨tw1746, tw1748, tw96, np_X12_isVersion, by decide, by decide⟩
theorem ss_X12_noteFit_358 : SiteS M_X12_noteFit 358 M_X12_widened 1 := ⟨tw1754, tw1755, np_X12_widened, by decide, by decide⟩
theorem sv_X12_noteFit_362 : SiteV M_X12_noteFit 362 M_X12_timesIn 3 := ⟨tw1796, tw1798, tw103, np_X12_timesIn, by decide, by decide⟩
theorem sv_X12_ofDoc_256 : SiteV M_X12_ofDoc 256 M_X12_isDoc 1 := ⟨tw1658, tw1660, tw77, np_X12_isDoc, by decide, by decide⟩
theorem sv_X12_ofDoc_259 : SiteV M_X12_ofDoc 259 M_X12_versions 1 := ⟨tw1662, tw1664, tw78, np_X12_versions, by decide, by decide⟩
theorem sv_X12_ofDoc_303 : SiteV M_X12_ofDoc 303 M_X12_passages 2 := ⟨tw1666, tw1668, tw79, np_X12_passages, by decide, by decide⟩
theorem sv_X12_ofDoc_307 : SiteV M_X12_ofDoc 307 M_X12_keptIn 1 := ⟨tw1700, tw1702, tw86, np_X12_keptIn, by decide, by decide⟩
theorem sv_X12_ofDoc_310 : SiteV M_X12_ofDoc 310 M_X12_returns 1 := ⟨tw1707, tw1709, tw87, np_X12_returns, by decide, by decide⟩
theorem ss_X12_ofWord_150 : SiteS M_X12_ofWord 150 M_X12_lesser 2 := ⟨tw1577, tw1578, np_X12_lesser, by decide, by decide⟩
theorem sv_X12_ofWord_284 : SiteV M_X12_ofWord 284 M_X12_isVersion 2 := ⟨tw1746, tw1748, tw96, np_X12_isVersion, by decide, by decide⟩
theorem ss_X12_ofWord_297 : SiteS M_X12_ofWord 297 M_X12_greater 2 := ⟨tw1697, tw1698, np_X12_greater, by decide, by decide⟩
theorem sv_X12_ofWord_362 : SiteV M_X12_ofWord 362 M_X12_timesIn 3 := ⟨tw1796, tw1798, tw103, np_X12_timesIn, by decide, by decide⟩
theorem sv_X12_oldest_262 : SiteV M_X12_oldest 262 M_X12_tokenAt 3 := ⟨tw1682, tw1684, tw83, np_X12_tokenAt, by decide, by decide⟩
theorem sv_X12_oldest_269 : SiteV M_X12_oldest 269 M_X12_longOf 2 := ⟨tw1678, tw1680, tw82, np_X12_longOf, by decide, by decide⟩
theorem sv_X12_oldest_278 : SiteV M_X12_oldest 278 M_X12_whereIs 1 := ⟨tw1670, tw1672, tw80, np_X12_whereIs, by decide, by decide⟩
theorem ss_X12_oldest_297 : SiteS M_X12_oldest 297 M_X12_greater 2 := ⟨tw1697, tw1698, np_X12_greater, by decide, by decide⟩
theorem ss_X12_oldest_300 : SiteS M_X12_oldest 300 M_X12_ones 1 := ⟨tw1704, tw1705, np_X12_ones, by decide, by decide⟩
theorem ss_X12_ones_64 : SiteS M_X12_ones 64 M_X12_has 2 := ⟨tw1694, tw1695, np_X12_has, by decide, by decide⟩
theorem sv_X12_passages_278 : SiteV M_X12_passages 278 M_X12_whereIs 1 := ⟨tw1670, tw1672, tw80, np_X12_whereIs, by decide, by decide⟩
theorem sv_X12_passages_291 : SiteV M_X12_passages 291 M_X12_behindOf 3 := ⟨tw1690, tw1692, tw85, np_X12_behindOf, by decide, by decide⟩
theorem sv_X12_passages_294 : SiteV M_X12_passages 294 M_X12_hasAhead 3 := ⟨tw1686, tw1688, tw84, np_X12_hasAhead, by decide, by decide⟩
theorem ss_X12_passages_297 : SiteS M_X12_passages 297 M_X12_greater 2 := ⟨tw1697, tw1698, np_X12_greater, by decide, by decide⟩
theorem sv_X12_placeOf_262 : SiteV M_X12_placeOf 262 M_X12_tokenAt 3 := ⟨tw1682, tw1684, tw83, np_X12_tokenAt, by decide, by decide⟩
theorem sv_X12_placeOf_269 : SiteV M_X12_placeOf 269 M_X12_longOf 2 := ⟨tw1678, tw1680, tw82, np_X12_longOf, by decide, by decide⟩
theorem sv_X12_postings_278 : SiteV M_X12_postings 278 M_X12_whereIs 1 := ⟨tw1670, tw1672, tw80, np_X12_whereIs, by decide, by decide⟩
theorem ss_X12_postings_281 : SiteS M_X12_postings 281 M_X12_rowsIn 1 := ⟨tw1735, tw1736, np_X12_rowsIn, by decide, by decide⟩
theorem ss_X12_question_72 : SiteS M_X12_question 72 M_X12_in 3 := ⟨tw1498, tw1499, np_X12_in, by decide, by decide⟩
theorem sv_X12_question_371 : SiteV M_X12_question 371 M_X12_ofAsking 2 := ⟨tw1828, tw1830, tw107, np_X12_ofAsking, by decide, by decide⟩
theorem sv_X12_question_374 : SiteV M_X12_question 374 M_X12_hasAsking 1 := ⟨tw1816, tw1818, tw104, np_X12_hasAsking, by decide, by decide⟩
theorem sv_X12_question_377 : SiteV M_X12_question 377 M_X12_askedMany 0 := ⟨tw1820, tw1822, tw105, np_X12_askedMany, by decide, by decide⟩
theorem sv_X12_question_380 : SiteV M_X12_question 380 M_X12_wordsOf 1 := ⟨tw1824, tw1826, tw106, np_X12_wordsOf, by decide, by decide⟩
theorem sv_X12_rank_404 : SiteV M_X12_rank 404 M_X12_rankOf 2 := ⟨tw1884, tw1886, tw117, np_X12_rankOf, by decide, by decide⟩
theorem ss_X12_rankOf_64 : SiteS M_X12_rankOf 64 M_X12_has 2 := ⟨tw1694, tw1695, np_X12_has, by decide, by decide⟩
theorem sv_X12_rankOf_259 : SiteV M_X12_rankOf 259 M_X12_versions 1 := ⟨tw1662, tw1664, tw78, np_X12_versions, by decide, by decide⟩
theorem ss_X12_rankOf_300 : SiteS M_X12_rankOf 300 M_X12_ones 1 := ⟨tw1704, tw1705, np_X12_ones, by decide, by decide⟩
theorem sv_X12_readAsking_136 : SiteV M_X12_readAsking 136 M_X12_takeWord 0 := ⟨tw1550, tw1552, tw57, np_X12_takeWord, by decide, by decide⟩
theorem sv_X12_readAsking_153 : SiteV M_X12_readAsking 153 M_X12_takeWords 1 := ⟨tw1546, tw1548, tw56, np_X12_takeWords, by decide, by decide⟩
theorem sv_X12_readAsking_177 : SiteV M_X12_readAsking 177 M_X12_take 3 := ⟨tw1592, tw1594, tw65, np_X12_take, by decide, by decide⟩
theorem sv_X12_readChange_177 : SiteV M_X12_readChange 177 M_X12_take 3 := ⟨tw1592, tw1594, tw65, np_X12_take, by decide, by decide⟩
theorem sv_X12_readChange_180 : SiteV M_X12_readChange 180 M_X12_readPut 0 := ⟨tw1596, tw1598, tw66, np_X12_readPut, by decide, by decide⟩
theorem sv_X12_readPut_139 : SiteV M_X12_readPut 139 M_X12_latest 1 := ⟨tw1566, tw1568, tw60, np_X12_latest, by decide, by decide⟩
theorem sv_X12_readPut_153 : SiteV M_X12_readPut 153 M_X12_takeWords 1 := ⟨tw1546, tw1548, tw56, np_X12_takeWords, by decide, by decide⟩
theorem sv_X12_readPut_177 : SiteV M_X12_readPut 177 M_X12_take 3 := ⟨tw1592, tw1594, tw65, np_X12_take, by decide, by decide⟩
theorem sv_X12_readText_124 : SiteV M_X12_readText 124 M_X12_token 0 := ⟨tw1513, tw1515, tw49, np_X12_token, by decide, by decide⟩
theorem sv_X12_readText_240 : SiteV M_X12_readText 240 M_X12_allLines 1 := ⟨tw1521, tw1523, tw51, np_X12_allLines, by decide, by decide⟩
theorem sv_X12_returns_259 : SiteV M_X12_returns 259 M_X12_versions 1 := ⟨tw1662, tw1664, tw78, np_X12_versions, by decide, by decide⟩
theorem sv_X12_returns_287 : SiteV M_X12_returns 287 M_X12_areAlike 4 := ⟨tw1711, tw1713, tw88, np_X12_areAlike, by decide, by decide⟩
theorem ss_X12_rowsIn_64 : SiteS M_X12_rowsIn 64 M_X12_has 2 := ⟨tw1694, tw1695, np_X12_has, by decide, by decide⟩
theorem sv_X12_samePairs_377 : SiteV M_X12_samePairs 377 M_X12_askedMany 0 := ⟨tw1820, tw1822, tw105, np_X12_askedMany, by decide, by decide⟩
theorem sv_X12_samePairs_419 : SiteV M_X12_samePairs 419 M_X12_isWithin 2 := ⟨tw1908, tw1910, tw122, np_X12_isWithin, by decide, by decide⟩
theorem sv_X12_shared_262 : SiteV M_X12_shared 262 M_X12_tokenAt 3 := ⟨tw1682, tw1684, tw83, np_X12_tokenAt, by decide, by decide⟩
theorem sv_X12_shared_269 : SiteV M_X12_shared 269 M_X12_longOf 2 := ⟨tw1678, tw1680, tw82, np_X12_longOf, by decide, by decide⟩
theorem sv_X12_shared_272 : SiteV M_X12_shared 272 M_X12_placeOf 3 := ⟨tw1674, tw1676, tw81, np_X12_placeOf, by decide, by decide⟩
theorem sv_X12_shared_284 : SiteV M_X12_shared 284 M_X12_isVersion 2 := ⟨tw1746, tw1748, tw96, np_X12_isVersion, by decide, by decide⟩
theorem sv_X12_shared_313 : SiteV M_X12_shared 313 M_X12_hand 1 := ⟨tw1650, tw1652, tw75, np_X12_hand, by decide, by decide⟩
theorem sv_X12_sizeAll_259 : SiteV M_X12_sizeAll 259 M_X12_versions 1 := ⟨tw1662, tw1664, tw78, np_X12_versions, by decide, by decide⟩
theorem sv_X12_sizeAll_269 : SiteV M_X12_sizeAll 269 M_X12_longOf 2 := ⟨tw1678, tw1680, tw82, np_X12_longOf, by decide, by decide⟩
theorem ss_X12_spans_64 : SiteS M_X12_spans 64 M_X12_has 2 := ⟨tw1694, tw1695, np_X12_has, by decide, by decide⟩
theorem sv_X12_spans_256 : SiteV M_X12_spans 256 M_X12_isDoc 1 := ⟨tw1658, tw1660, tw77, np_X12_isDoc, by decide, by decide⟩
theorem ss_X12_spans_281 : SiteS M_X12_spans 281 M_X12_rowsIn 1 := ⟨tw1735, tw1736, np_X12_rowsIn, by decide, by decide⟩
theorem sv_X12_spans_395 : SiteV M_X12_spans 395 M_X12_layHeld 2 := ⟨tw1836, tw1838, tw108, np_X12_layHeld, by decide, by decide⟩
theorem sv_X12_spans_398 : SiteV M_X12_spans 398 M_X12_isAsking 1 := ⟨tw1856, tw1858, tw113, np_X12_isAsking, by decide, by decide⟩
theorem ss_X12_take_72 : SiteS M_X12_take 72 M_X12_in 3 := ⟨tw1498, tw1499, np_X12_in, by decide, by decide⟩
theorem sv_X12_take_112 : SiteV M_X12_take 112 M_X12_fails 0 := ⟨tw1554, tw1556, tw58, np_X12_fails, by decide, by decide⟩
theorem sv_X12_take_116 : SiteV M_X12_take 116 M_X12_addsFault 2 := ⟨tw1542, tw1544, tw55, np_X12_addsFault, by decide, by decide⟩
theorem sv_X12_take_124 : SiteV M_X12_take 124 M_X12_token 0 := ⟨tw1513, tw1515, tw49, np_X12_token, by decide, by decide⟩
theorem sv_X12_takeWord_112 : SiteV M_X12_takeWord 112 M_X12_fails 0 := ⟨tw1554, tw1556, tw58, np_X12_fails, by decide, by decide⟩
theorem sv_X12_takeWord_116 : SiteV M_X12_takeWord 116 M_X12_addsFault 2 := ⟨tw1542, tw1544, tw55, np_X12_addsFault, by decide, by decide⟩
theorem sv_X12_takeWord_124 : SiteV M_X12_takeWord 124 M_X12_token 0 := ⟨tw1513, tw1515, tw49, np_X12_token, by decide, by decide⟩
theorem ss_X12_takeWord_132 : SiteS M_X12_takeWord 132 M_X12_numberOf 1 := ⟨tw1558, tw1559, np_X12_numberOf, by decide, by decide⟩
theorem sv_X12_takeWords_116 : SiteV M_X12_takeWords 116 M_X12_addsFault 2 := ⟨tw1542, tw1544, tw55, np_X12_addsFault, by decide, by decide⟩
theorem sv_X12_takeWords_136 : SiteV M_X12_takeWords 136 M_X12_takeWord 0 := ⟨tw1550, tw1552, tw57, np_X12_takeWord, by decide, by decide⟩
theorem ss_X12_text_72 : SiteS M_X12_text 72 M_X12_in 3 := ⟨tw1498, tw1499, np_X12_in, by decide, by decide⟩
theorem sv_X12_text_243 : SiteV M_X12_text 243 M_X12_is 2 := ⟨tw1505, tw1507, tw47, np_X12_is, by decide, by decide⟩
theorem sv_X12_text_246 : SiteV M_X12_text 246 M_X12_readText 1 := ⟨tw1509, tw1511, tw48, np_X12_readText, by decide, by decide⟩
theorem sv_X12_text_249 : SiteV M_X12_text 249 M_X12_store 3 := ⟨tw1638, tw1640, tw74, np_X12_store, by decide, by decide⟩
theorem sv_X12_times_284 : SiteV M_X12_times 284 M_X12_isVersion 2 := ⟨tw1746, tw1748, tw96, np_X12_isVersion, by decide, by decide⟩
theorem sv_X12_times_313 : SiteV M_X12_times 313 M_X12_hand 1 := ⟨tw1650, tw1652, tw75, np_X12_hand, by decide, by decide⟩
theorem sv_X12_times_371 : SiteV M_X12_times 371 M_X12_ofAsking 2 := ⟨tw1828, tw1830, tw107, np_X12_ofAsking, by decide, by decide⟩
theorem sv_X12_times_374 : SiteV M_X12_times 374 M_X12_hasAsking 1 := ⟨tw1816, tw1818, tw104, np_X12_hasAsking, by decide, by decide⟩
theorem sv_X12_times_386 : SiteV M_X12_times 386 M_X12_timesOf 3 := ⟨tw1844, tw1846, tw110, np_X12_timesOf, by decide, by decide⟩
theorem sv_X12_times_398 : SiteV M_X12_times 398 M_X12_isAsking 1 := ⟨tw1856, tw1858, tw113, np_X12_isAsking, by decide, by decide⟩
theorem sv_X12_timesIn_269 : SiteV M_X12_timesIn 269 M_X12_longOf 2 := ⟨tw1678, tw1680, tw82, np_X12_longOf, by decide, by decide⟩
theorem sv_X12_timesIn_275 : SiteV M_X12_timesIn 275 M_X12_wordAt 3 := ⟨tw1715, tw1717, tw89, np_X12_wordAt, by decide, by decide⟩
theorem sv_X12_timesOf_269 : SiteV M_X12_timesOf 269 M_X12_longOf 2 := ⟨tw1678, tw1680, tw82, np_X12_longOf, by decide, by decide⟩
theorem sv_X12_timesOf_383 : SiteV M_X12_timesOf 383 M_X12_beginsAt 4 := ⟨tw1848, tw1850, tw111, np_X12_beginsAt, by decide, by decide⟩
theorem ss_X12_token_72 : SiteS M_X12_token 72 M_X12_in 3 := ⟨tw1498, tw1499, np_X12_in, by decide, by decide⟩
theorem sv_X12_token_86 : SiteV M_X12_token 86 M_X12_see 0 := ⟨tw1517, tw1519, tw50, np_X12_see, by decide, by decide⟩
theorem ss_X12_tokenAt_146 : SiteS M_X12_tokenAt 146 M_X12_at 2 := ⟨tw1570, tw1571, np_X12_at, by decide, by decide⟩
theorem sv_X12_turned_262 : SiteV M_X12_turned 262 M_X12_tokenAt 3 := ⟨tw1682, tw1684, tw83, np_X12_tokenAt, by decide, by decide⟩
theorem sv_X12_turned_269 : SiteV M_X12_turned 269 M_X12_longOf 2 := ⟨tw1678, tw1680, tw82, np_X12_longOf, by decide, by decide⟩
theorem sv_X12_turned_272 : SiteV M_X12_turned 272 M_X12_placeOf 3 := ⟨tw1674, tw1676, tw81, np_X12_placeOf, by decide, by decide⟩
theorem sv_X12_twins_284 : SiteV M_X12_twins 284 M_X12_isVersion 2 := ⟨tw1746, tw1748, tw96, np_X12_isVersion, by decide, by decide⟩
theorem sv_X12_twins_287 : SiteV M_X12_twins 287 M_X12_areAlike 4 := ⟨tw1711, tw1713, tw88, np_X12_areAlike, by decide, by decide⟩
theorem ss_X12_version_146 : SiteS M_X12_version 146 M_X12_at 2 := ⟨tw1570, tw1571, np_X12_at, by decide, by decide⟩
theorem sv_X12_version_269 : SiteV M_X12_version 269 M_X12_longOf 2 := ⟨tw1678, tw1680, tw82, np_X12_longOf, by decide, by decide⟩
theorem sv_X12_version_275 : SiteV M_X12_version 275 M_X12_wordAt 3 := ⟨tw1715, tw1717, tw89, np_X12_wordAt, by decide, by decide⟩
theorem sv_X12_version_284 : SiteV M_X12_version 284 M_X12_isVersion 2 := ⟨tw1746, tw1748, tw96, np_X12_isVersion, by decide, by decide⟩
theorem sv_X12_version_313 : SiteV M_X12_version 313 M_X12_hand 1 := ⟨tw1650, tw1652, tw75, np_X12_hand, by decide, by decide⟩
theorem sv_X12_version_340 : SiteV M_X12_version 340 M_X12_fresh 2 := ⟨tw1761, tw1763, tw98, np_X12_fresh, by decide, by decide⟩
theorem sv_X12_version_343 : SiteV M_X12_version 343 M_X12_lost 2 := ⟨tw1765, tw1767, tw99, np_X12_lost, by decide, by decide⟩
theorem sv_X12_version_346 : SiteV M_X12_version 346 M_X12_turned 2 := ⟨tw1769, tw1771, tw100, np_X12_turned, by decide, by decide⟩
theorem sv_X12_version_349 : SiteV M_X12_version 349 M_X12_oldest 2 := ⟨tw1773, tw1775, tw101, np_X12_oldest, by decide, by decide⟩
theorem sv_X12_versionsAll_259 : SiteV M_X12_versionsAll 259 M_X12_versions 1 := ⟨tw1662, tw1664, tw78, np_X12_versions, by decide, by decide⟩
theorem ss_X12_versionsBy_300 : SiteS M_X12_versionsBy 300 M_X12_ones 1 := ⟨tw1704, tw1705, np_X12_ones, by decide, by decide⟩
theorem sv_X12_whereIs_259 : SiteV M_X12_whereIs 259 M_X12_versions 1 := ⟨tw1662, tw1664, tw78, np_X12_versions, by decide, by decide⟩
theorem sv_X12_whereIs_272 : SiteV M_X12_whereIs 272 M_X12_placeOf 3 := ⟨tw1674, tw1676, tw81, np_X12_placeOf, by decide, by decide⟩
theorem ss_X12_word_72 : SiteS M_X12_word 72 M_X12_in 3 := ⟨tw1498, tw1499, np_X12_in, by decide, by decide⟩
theorem sv_X12_word_313 : SiteV M_X12_word 313 M_X12_hand 1 := ⟨tw1650, tw1652, tw75, np_X12_hand, by decide, by decide⟩
theorem sv_X12_word_334 : SiteV M_X12_word 334 M_X12_layWords 0 := ⟨tw1750, tw1752, tw97, np_X12_layWords, by decide, by decide⟩
theorem sv_X12_word_365 : SiteV M_X12_word 365 M_X12_ofWord 2 := ⟨tw1791, tw1793, tw102, np_X12_ofWord, by decide, by decide⟩
theorem sv_X12_wordAt_262 : SiteV M_X12_wordAt 262 M_X12_tokenAt 3 := ⟨tw1682, tw1684, tw83, np_X12_tokenAt, by decide, by decide⟩
theorem sv_X12_wordAt_266 : SiteV M_X12_wordAt 266 M_X12_wordOf 1 := ⟨tw1719, tw1721, tw90, np_X12_wordOf, by decide, by decide⟩
theorem sv_X12_wordsOf_371 : SiteV M_X12_wordsOf 371 M_X12_ofAsking 2 := ⟨tw1828, tw1830, tw107, np_X12_ofAsking, by decide, by decide⟩
theorem sv_X1_back_33 : SiteV M_X1_back 33 M_X1_below 1 := ⟨tw1297, tw1299, tw39, np_X1_below, by decide, by decide⟩
theorem sv_X1_back_61 : SiteV M_X1_back 61 M_X0_versionsOf 1 := ⟨tw1315, tw691, tw692, np_X0_versionsOf, by decide, by decide⟩
theorem sv_X1_back_64 : SiteV M_X1_back 64 M_X1_mayGoOn 1 := ⟨tw1311, tw1313, tw42, np_X1_mayGoOn, by decide, by decide⟩
theorem sv_X1_back_92 : SiteV M_X1_back 92 M_X0_goBack 3 := ⟨tw1337, tw765, tw766, np_X0_goBack, by decide, by decide⟩
theorem sv_X1_cut_33 : SiteV M_X1_cut 33 M_X1_below 1 := ⟨tw1297, tw1299, tw39, np_X1_below, by decide, by decide⟩
theorem sv_X1_cut_42 : SiteV M_X1_cut 42 M_X0_latestLength 1 := ⟨tw1306, tw700, tw701, np_X0_latestLength, by decide, by decide⟩
theorem sv_X1_cut_64 : SiteV M_X1_cut 64 M_X1_mayGoOn 1 := ⟨tw1311, tw1313, tw42, np_X1_mayGoOn, by decide, by decide⟩
theorem sv_X1_cut_68 : SiteV M_X1_cut 68 M_X0_cutWords 4 := ⟨tw1316, tw753, tw754, np_X0_cutWords, by decide, by decide⟩
theorem sv_X1_deed_42 : SiteV M_X1_deed 42 M_X0_latestLength 1 := ⟨tw1306, tw700, tw701, np_X0_latestLength, by decide, by decide⟩
theorem sv_X1_deed_45 : SiteV M_X1_deed 45 M_X1_cut 1 := ⟨tw1307, tw1309, tw41, np_X1_cut, by decide, by decide⟩
theorem sv_X1_deed_49 : SiteV M_X1_deed 49 M_X0_firstTokenOf 1 := ⟨tw1317, tw1318, tw1319, np_X0_firstTokenOf, by decide, by decide⟩
theorem sv_X1_deed_52 : SiteV M_X1_deed 52 M_X1_put 1 := ⟨tw1321, tw1323, tw43, np_X1_put, by decide, by decide⟩
theorem sv_X1_deed_55 : SiteV M_X1_deed 55 M_X1_move 1 := ⟨tw1328, tw1330, tw44, np_X1_move, by decide, by decide⟩
theorem sv_X1_deed_58 : SiteV M_X1_deed 58 M_X1_back 1 := ⟨tw1333, tw1335, tw45, np_X1_back, by decide, by decide⟩
theorem sv_X1_goOn_26 : SiteV M_X1_goOn 26 M_X0_copyFrom 1 := ⟨tw1296, tw823, tw824, np_X0_copyFrom, by decide, by decide⟩
theorem sv_X1_goOn_33 : SiteV M_X1_goOn 33 M_X1_below 1 := ⟨tw1297, tw1299, tw39, np_X1_below, by decide, by decide⟩
theorem sv_X1_goOn_37 : SiteV M_X1_goOn 37 M_X1_deed 2 := ⟨tw1302, tw1304, tw40, np_X1_deed, by decide, by decide⟩
theorem so_X1_init_3 : Cond.methodLink (mY M_X1_init).cls 3 objectInit ∈ GW ∧ Cond.instanceMethod objectInit ∈ GW ∧ Cond.code objectInit ⟨#[0xb1]⟩ 1 none ∈ GW ∧ 1 ≤ mF M_X1_init ∧ 20 ≤ mW M_X1_init := ⟨tw433, tw165, tw166, by decide, by decide⟩
theorem si_X1_init_11 : SiteI M_X1_init 11 M_X0_init 0 (some "VersionSearch") := ⟨by decide +kernel, tw208, rfl, rfl, np_X0_init, by decide, by decide⟩
theorem sv_X1_mayGoOn_61 : SiteV M_X1_mayGoOn 61 M_X0_versionsOf 1 := ⟨tw1315, tw691, tw692, np_X0_versionsOf, by decide, by decide⟩
theorem sv_X1_move_33 : SiteV M_X1_move 33 M_X1_below 1 := ⟨tw1297, tw1299, tw39, np_X1_below, by decide, by decide⟩
theorem sv_X1_move_42 : SiteV M_X1_move 42 M_X0_latestLength 1 := ⟨tw1306, tw700, tw701, np_X0_latestLength, by decide, by decide⟩
theorem sv_X1_move_64 : SiteV M_X1_move 64 M_X1_mayGoOn 1 := ⟨tw1311, tw1313, tw42, np_X1_mayGoOn, by decide, by decide⟩
theorem sv_X1_move_89 : SiteV M_X1_move 89 M_X0_moveWord 4 := ⟨tw1332, tw761, tw762, np_X0_moveWord, by decide, by decide⟩
theorem sv_X1_put_33 : SiteV M_X1_put 33 M_X1_below 1 := ⟨tw1297, tw1299, tw39, np_X1_below, by decide, by decide⟩
theorem sv_X1_put_42 : SiteV M_X1_put 42 M_X0_latestLength 1 := ⟨tw1306, tw700, tw701, np_X0_latestLength, by decide, by decide⟩
theorem sv_X1_put_49 : SiteV M_X1_put 49 M_X0_firstTokenOf 1 := ⟨tw1317, tw1318, tw1319, np_X0_firstTokenOf, by decide, by decide⟩
theorem sv_X1_put_64 : SiteV M_X1_put 64 M_X1_mayGoOn 1 := ⟨tw1311, tw1313, tw42, np_X1_mayGoOn, by decide, by decide⟩
theorem ss_X1_put_75 : SiteS M_X1_put 75 M_X5_at 2 := ⟨tw1325, tw498, np_X5_at, by decide, by decide⟩
theorem ss_X1_put_81 : SiteS M_X1_put 81 M_X5_set 3 := ⟨tw1326, tw513, np_X5_set, by decide, by decide⟩
theorem sv_X1_put_85 : SiteV M_X1_put 85 M_X0_putWords 5 := ⟨tw1327, tw749, tw750, np_X0_putWords, by decide, by decide⟩
theorem sv_X2_documentOfDate_21 : SiteV M_X2_documentOfDate 21 M_X0_versionsOf 1 := ⟨tw869, tw691, tw692, np_X0_versionsOf, by decide, by decide⟩
theorem sv_X2_documentOfDate_95 : SiteV M_X2_documentOfDate 95 M_X0_dateOf 2 := ⟨tw1053, tw956, tw957, np_X0_dateOf, by decide, by decide⟩
theorem sv_X2_documentsOfWord_106 : SiteV M_X2_documentsOfWord 106 M_X0_slotsOfWord 1 := ⟨tw1031, tw1018, tw1019, np_X0_slotsOfWord, by decide, by decide⟩
theorem ss_X2_firstDateOfWord_102 : SiteS M_X2_firstDateOfWord 102 M_X5_at 2 := ⟨tw1036, tw498, np_X5_at, by decide, by decide⟩
theorem sv_X2_firstDateOfWord_106 : SiteV M_X2_firstDateOfWord 106 M_X0_slotsOfWord 1 := ⟨tw1031, tw1018, tw1019, np_X0_slotsOfWord, by decide, by decide⟩
theorem sv_X2_fresh_25 : SiteV M_X2_fresh 25 M_X0_lengthOf 2 := ⟨tw870, tw706, tw707, np_X0_lengthOf, by decide, by decide⟩
theorem sv_X2_fresh_32 : SiteV M_X2_fresh 32 M_X0_stayOf 1 := ⟨tw875, tw811, tw812, np_X0_stayOf, by decide, by decide⟩
theorem sv_X2_fresh_55 : SiteV M_X2_fresh 55 M_X0_tokenAt 3 := ⟨tw916, tw733, tw734, np_X0_tokenAt, by decide, by decide⟩
theorem ss_X2_fresh_58 : SiteS M_X2_fresh 58 M_X5_firstBit 1 := ⟨tw917, tw918, np_X5_firstBit, by decide, by decide⟩
theorem sv_X2_inBoth_25 : SiteV M_X2_inBoth 25 M_X0_lengthOf 2 := ⟨tw870, tw706, tw707, np_X0_lengthOf, by decide, by decide⟩
theorem sv_X2_inBoth_32 : SiteV M_X2_inBoth 32 M_X0_stayOf 1 := ⟨tw875, tw811, tw812, np_X0_stayOf, by decide, by decide⟩
theorem sv_X2_inBoth_55 : SiteV M_X2_inBoth 55 M_X0_tokenAt 3 := ⟨tw916, tw733, tw734, np_X0_tokenAt, by decide, by decide⟩
theorem ss_X2_inBoth_70 : SiteS M_X2_inBoth 70 M_X5_bit 2 := ⟨tw924, tw925, np_X5_bit, by decide, by decide⟩
theorem so_X2_init_3 : Cond.methodLink (mY M_X2_init).cls 3 objectInit ∈ GW ∧ Cond.instanceMethod objectInit ∈ GW ∧ Cond.code objectInit ⟨#[0xb1]⟩ 1 none ∈ GW ∧ 1 ≤ mF M_X2_init ∧ 20 ≤ mW M_X2_init := ⟨tw413, tw165, tw166, by decide, by decide⟩
theorem sv_X2_kept_32 : SiteV M_X2_kept 32 M_X0_stayOf 1 := ⟨tw875, tw811, tw812, np_X0_stayOf, by decide, by decide⟩
theorem sv_X2_kept_77 : SiteV M_X2_kept 77 M_X0_ownerOf 1 := ⟨tw936, tw815, tw816, np_X0_ownerOf, by decide, by decide⟩
theorem sv_X2_kept_80 : SiteV M_X2_kept 80 M_X0_everyVersion 1 := ⟨tw937, tw938, tw939, np_X0_everyVersion, by decide, by decide⟩
theorem sv_X2_longestDocument_40 : SiteV M_X2_longestDocument 40 M_X0_latestLength 1 := ⟨tw889, tw700, tw701, np_X0_latestLength, by decide, by decide⟩
theorem sv_X2_longestRow_25 : SiteV M_X2_longestRow 25 M_X0_lengthOf 2 := ⟨tw870, tw706, tw707, np_X0_lengthOf, by decide, by decide⟩
theorem sv_X2_longestRow_51 : SiteV M_X2_longestRow 51 M_X0_spellingAt 3 := ⟨tw902, tw903, tw904, np_X0_spellingAt, by decide, by decide⟩
theorem ss_X2_longestRow_65 : SiteS M_X2_longestRow 65 M_J9_max_7cf53 2 := ⟨tw931, tw846, np_J9_max_7cf53, by decide, by decide⟩
theorem ss_X2_longestRow_98 : SiteS M_X2_longestRow 98 M_X5_set 3 := ⟨tw1067, tw513, np_X5_set, by decide, by decide⟩
theorem ss_X2_longestRow_102 : SiteS M_X2_longestRow 102 M_X5_at 2 := ⟨tw1036, tw498, np_X5_at, by decide, by decide⟩
theorem sv_X2_lost_25 : SiteV M_X2_lost 25 M_X0_lengthOf 2 := ⟨tw870, tw706, tw707, np_X0_lengthOf, by decide, by decide⟩
theorem sv_X2_lost_87 : SiteV M_X2_lost 87 M_X2_inBoth 4 := ⟨tw967, tw968, tw969, np_X2_inBoth, by decide, by decide⟩
theorem sv_X2_oldest_25 : SiteV M_X2_oldest 25 M_X0_lengthOf 2 := ⟨tw870, tw706, tw707, np_X0_lengthOf, by decide, by decide⟩
theorem sv_X2_oldest_32 : SiteV M_X2_oldest 32 M_X0_stayOf 1 := ⟨tw875, tw811, tw812, np_X0_stayOf, by decide, by decide⟩
theorem sv_X2_oldest_55 : SiteV M_X2_oldest 55 M_X0_tokenAt 3 := ⟨tw916, tw733, tw734, np_X0_tokenAt, by decide, by decide⟩
theorem ss_X2_oldest_90 : SiteS M_X2_oldest 90 M_J6_bitCount_0f7a4 1 := ⟨tw979, tw880, np_J6_bitCount_0f7a4, by decide, by decide⟩
theorem sv_X2_passages_21 : SiteV M_X2_passages 21 M_X0_versionsOf 1 := ⟨tw869, tw691, tw692, np_X0_versionsOf, by decide, by decide⟩
theorem sv_X2_passages_25 : SiteV M_X2_passages 25 M_X0_lengthOf 2 := ⟨tw870, tw706, tw707, np_X0_lengthOf, by decide, by decide⟩
theorem sv_X2_passages_32 : SiteV M_X2_passages 32 M_X0_stayOf 1 := ⟨tw875, tw811, tw812, np_X0_stayOf, by decide, by decide⟩
theorem sv_X2_passages_55 : SiteV M_X2_passages 55 M_X0_tokenAt 3 := ⟨tw916, tw733, tw734, np_X0_tokenAt, by decide, by decide⟩
theorem ss_X2_passages_58 : SiteS M_X2_passages 58 M_X5_firstBit 1 := ⟨tw917, tw918, np_X5_firstBit, by decide, by decide⟩
theorem sv_X2_passages_61 : SiteV M_X2_passages 61 M_X2_stayTogether 4 := ⟨tw920, tw922, tw26, np_X2_stayTogether, by decide, by decide⟩
theorem ss_X2_passages_65 : SiteS M_X2_passages 65 M_J9_max_7cf53 2 := ⟨tw931, tw846, np_J9_max_7cf53, by decide, by decide⟩
theorem sv_X2_placeOf_25 : SiteV M_X2_placeOf 25 M_X0_lengthOf 2 := ⟨tw870, tw706, tw707, np_X0_lengthOf, by decide, by decide⟩
theorem sv_X2_placeOf_55 : SiteV M_X2_placeOf 55 M_X0_tokenAt 3 := ⟨tw916, tw733, tw734, np_X0_tokenAt, by decide, by decide⟩
theorem sv_X2_postings_32 : SiteV M_X2_postings 32 M_X0_stayOf 1 := ⟨tw875, tw811, tw812, np_X0_stayOf, by decide, by decide⟩
theorem ss_X2_postings_35 : SiteS M_X2_postings 35 M_X5_runs 1 := ⟨tw876, tw877, np_X5_runs, by decide, by decide⟩
theorem sv_X2_returns_21 : SiteV M_X2_returns 21 M_X0_versionsOf 1 := ⟨tw869, tw691, tw692, np_X0_versionsOf, by decide, by decide⟩
theorem sv_X2_returns_47 : SiteV M_X2_returns 47 M_X2_sameWords 5 := ⟨tw898, tw900, tw24, np_X2_sameWords, by decide, by decide⟩
theorem sv_X2_returns_83 : SiteV M_X2_returns 83 M_X2_wasBefore 3 := ⟨tw945, tw947, tw28, np_X2_wasBefore, by decide, by decide⟩
theorem sv_X2_sameWords_25 : SiteV M_X2_sameWords 25 M_X0_lengthOf 2 := ⟨tw870, tw706, tw707, np_X0_lengthOf, by decide, by decide⟩
theorem sv_X2_sameWords_51 : SiteV M_X2_sameWords 51 M_X0_spellingAt 3 := ⟨tw902, tw903, tw904, np_X0_spellingAt, by decide, by decide⟩
theorem sv_X2_size_21 : SiteV M_X2_size 21 M_X0_versionsOf 1 := ⟨tw869, tw691, tw692, np_X0_versionsOf, by decide, by decide⟩
theorem sv_X2_size_25 : SiteV M_X2_size 25 M_X0_lengthOf 2 := ⟨tw870, tw706, tw707, np_X0_lengthOf, by decide, by decide⟩
theorem sv_X2_spread_21 : SiteV M_X2_spread 21 M_X0_versionsOf 1 := ⟨tw869, tw691, tw692, np_X0_versionsOf, by decide, by decide⟩
theorem ss_X2_spread_65 : SiteS M_X2_spread 65 M_J9_max_7cf53 2 := ⟨tw931, tw846, np_J9_max_7cf53, by decide, by decide⟩
theorem sv_X2_spread_113 : SiteV M_X2_spread 113 M_X0_wordAt 1 := ⟨tw1041, tw803, tw804, np_X0_wordAt, by decide, by decide⟩
theorem ss_X2_spread_116 : SiteS M_X2_spread 116 M_X2_timesIn 4 := ⟨tw1042, tw1043, np_X2_timesIn, by decide, by decide⟩
theorem sv_X2_stayTogether_21 : SiteV M_X2_stayTogether 21 M_X0_versionsOf 1 := ⟨tw869, tw691, tw692, np_X0_versionsOf, by decide, by decide⟩
theorem sv_X2_stayTogether_32 : SiteV M_X2_stayTogether 32 M_X0_stayOf 1 := ⟨tw875, tw811, tw812, np_X0_stayOf, by decide, by decide⟩
theorem ss_X2_stayTogether_70 : SiteS M_X2_stayTogether 70 M_X5_bit 2 := ⟨tw924, tw925, np_X5_bit, by decide, by decide⟩
theorem sv_X2_stayTogether_73 : SiteV M_X2_stayTogether 73 M_X2_placeOf 4 := ⟨tw927, tw929, tw27, np_X2_placeOf, by decide, by decide⟩
theorem sv_X2_timesIn_25 : SiteV M_X2_timesIn 25 M_X0_lengthOf 2 := ⟨tw870, tw706, tw707, np_X0_lengthOf, by decide, by decide⟩
theorem sv_X2_timesIn_51 : SiteV M_X2_timesIn 51 M_X0_spellingAt 3 := ⟨tw902, tw903, tw904, np_X0_spellingAt, by decide, by decide⟩
theorem sv_X2_turned_25 : SiteV M_X2_turned 25 M_X0_lengthOf 2 := ⟨tw870, tw706, tw707, np_X0_lengthOf, by decide, by decide⟩
theorem sv_X2_turned_55 : SiteV M_X2_turned 55 M_X0_tokenAt 3 := ⟨tw916, tw733, tw734, np_X0_tokenAt, by decide, by decide⟩
theorem sv_X2_turned_73 : SiteV M_X2_turned 73 M_X2_placeOf 4 := ⟨tw927, tw929, tw27, np_X2_placeOf, by decide, by decide⟩
theorem sv_X2_twins_21 : SiteV M_X2_twins 21 M_X0_versionsOf 1 := ⟨tw869, tw691, tw692, np_X0_versionsOf, by decide, by decide⟩
theorem sv_X2_twins_43 : SiteV M_X2_twins 43 M_X2_twinsAhead 3 := ⟨tw894, tw896, tw23, np_X2_twinsAhead, by decide, by decide⟩
theorem sv_X2_twinsAhead_21 : SiteV M_X2_twinsAhead 21 M_X0_versionsOf 1 := ⟨tw869, tw691, tw692, np_X0_versionsOf, by decide, by decide⟩
theorem sv_X2_twinsAhead_47 : SiteV M_X2_twinsAhead 47 M_X2_sameWords 5 := ⟨tw898, tw900, tw24, np_X2_sameWords, by decide, by decide⟩
theorem sv_X2_wasBefore_47 : SiteV M_X2_wasBefore 47 M_X2_sameWords 5 := ⟨tw898, tw900, tw24, np_X2_sameWords, by decide, by decide⟩
theorem ss_X3_add_30 : SiteS M_X3_add 30 M_X5_set 3 := ⟨tw792, tw513, np_X5_set, by decide, by decide⟩
theorem sv_X3_add_34 : SiteV M_X3_add 34 M_X4_value 1 := ⟨tw793, tw662, tw663, np_X4_value, by decide, by decide⟩
theorem sv_X3_askVersion_74 : SiteV M_X3_askVersion 74 M_X3_fitting 1 := ⟨tw1276, tw1251, tw1252, np_X3_fitting, by decide, by decide⟩
theorem sv_X3_askVersion_78 : SiteV M_X3_askVersion 78 M_X0_hasVersion 2 := ⟨tw1277, tw717, tw718, np_X0_hasVersion, by decide, by decide⟩
theorem sv_X3_askVersion_82 : SiteV M_X3_askVersion 82 M_X3_fittingIn 2 := ⟨tw1278, tw1280, tw38, np_X3_fittingIn, by decide, by decide⟩
theorem ss_X3_askVersion_86 : SiteS M_X3_askVersion 86 M_J9_max_7cf53 2 := ⟨tw1282, tw846, np_J9_max_7cf53, by decide, by decide⟩
theorem ss_X3_copyFrom_19 : SiteS M_X3_copyFrom 19 M_X5_copy 2 := ⟨tw844, tw827, np_X5_copy, by decide, by decide⟩
theorem sv_X3_fitting_51 : SiteV M_X3_fitting 51 M_X3_slotsTold 1 := ⟨tw1254, tw1256, tw37, np_X3_slotsTold, by decide, by decide⟩
theorem sv_X3_fitting_58 : SiteV M_X3_fitting 58 M_X0_slotsOfWord 1 := ⟨tw1260, tw1018, tw1019, np_X0_slotsOfWord, by decide, by decide⟩
theorem ss_X3_fitting_61 : SiteS M_X3_fitting 61 M_X3_keepsTo 3 := ⟨tw1261, tw1262, np_X3_keepsTo, by decide, by decide⟩
theorem sv_X3_fittingAt_51 : SiteV M_X3_fittingAt 51 M_X3_slotsTold 1 := ⟨tw1254, tw1256, tw37, np_X3_slotsTold, by decide, by decide⟩
theorem sv_X3_fittingAt_58 : SiteV M_X3_fittingAt 58 M_X0_slotsOfWord 1 := ⟨tw1260, tw1018, tw1019, np_X0_slotsOfWord, by decide, by decide⟩
theorem ss_X3_fittingAt_61 : SiteS M_X3_fittingAt 61 M_X3_keepsTo 3 := ⟨tw1261, tw1262, np_X3_keepsTo, by decide, by decide⟩
theorem sv_X3_fittingAt_65 : SiteV M_X3_fittingAt 65 M_X0_wordAt 1 := ⟨tw1268, tw803, tw804, np_X0_wordAt, by decide, by decide⟩
theorem ss_X3_fittingAt_68 : SiteS M_X3_fittingAt 68 M_X5_wordNumber 1 := ⟨tw1287, tw991, np_X5_wordNumber, by decide, by decide⟩
theorem sv_X3_fittingIn_51 : SiteV M_X3_fittingIn 51 M_X3_slotsTold 1 := ⟨tw1254, tw1256, tw37, np_X3_slotsTold, by decide, by decide⟩
theorem sv_X3_fittingIn_58 : SiteV M_X3_fittingIn 58 M_X0_slotsOfWord 1 := ⟨tw1260, tw1018, tw1019, np_X0_slotsOfWord, by decide, by decide⟩
theorem ss_X3_fittingIn_61 : SiteS M_X3_fittingIn 61 M_X3_keepsTo 3 := ⟨tw1261, tw1262, np_X3_keepsTo, by decide, by decide⟩
theorem so_X3_init_3 : Cond.methodLink (mY M_X3_init).cls 3 objectInit ∈ GW ∧ Cond.instanceMethod objectInit ∈ GW ∧ Cond.code objectInit ⟨#[0xb1]⟩ 1 none ∈ GW ∧ 1 ≤ mF M_X3_init ∧ 20 ≤ mW M_X3_init := ⟨tw289, tw165, tw166, by decide, by decide⟩
theorem ss_X3_partOf_38 : SiteS M_X3_partOf 38 M_X5_at 2 := ⟨tw1245, tw498, np_X5_at, by decide, by decide⟩
theorem sv_X3_slotsTold_42 : SiteV M_X3_slotsTold 42 M_X3_partOf 2 := ⟨tw1258, tw1242, tw1243, np_X3_partOf, by decide, by decide⟩
theorem ss_X3_slotsTold_46 : SiteS M_X3_slotsTold 46 M_X0_slotOf 2 := ⟨tw1259, tw710, np_X0_slotOf, by decide, by decide⟩
theorem sv_X3_sureLetter_51 : SiteV M_X3_sureLetter 51 M_X3_slotsTold 1 := ⟨tw1254, tw1256, tw37, np_X3_slotsTold, by decide, by decide⟩
theorem sv_X3_sureLetter_58 : SiteV M_X3_sureLetter 58 M_X0_slotsOfWord 1 := ⟨tw1260, tw1018, tw1019, np_X0_slotsOfWord, by decide, by decide⟩
theorem ss_X3_sureLetter_61 : SiteS M_X3_sureLetter 61 M_X3_keepsTo 3 := ⟨tw1261, tw1262, np_X3_keepsTo, by decide, by decide⟩
theorem sv_X3_sureLetter_65 : SiteV M_X3_sureLetter 65 M_X0_wordAt 1 := ⟨tw1268, tw803, tw804, np_X0_wordAt, by decide, by decide⟩
theorem ss_X3_sureLetter_71 : SiteS M_X3_sureLetter 71 M_X5_firstLetter 1 := ⟨tw1269, tw1270, np_X5_firstLetter, by decide, by decide⟩
theorem so_X4_init_5 : Cond.methodLink (mY M_X4_init).cls 5 objectInit ∈ GW ∧ Cond.instanceMethod objectInit ∈ GW ∧ Cond.code objectInit ⟨#[0xb1]⟩ 1 none ∈ GW ∧ 1 ≤ mF M_X4_init ∧ 20 ≤ mW M_X4_init := ⟨tw336, tw165, tw166, by decide, by decide⟩
theorem ss_X4_kindOf_98 : SiteS M_X4_kindOf 98 M_X4_sortOf 1 := ⟨tw547, tw548, np_X4_sortOf, by decide, by decide⟩
theorem ss_X4_kindOf_102 : SiteS M_X4_kindOf 102 M_X4_keywordOf 1 := ⟨tw550, tw551, np_X4_keywordOf, by decide, by decide⟩
theorem sv_X4_kindOf_105 : SiteV M_X4_kindOf 105 M_X10_tokenIs 1 := ⟨tw568, tw569, tw570, np_X10_tokenIs, by decide, by decide⟩
theorem sv_X4_read_42 : SiteV M_X4_read 42 M_X10_next 0 := ⟨tw527, tw528, tw529, np_X10_next, by decide, by decide⟩
theorem ss_X4_read_53 : SiteS M_X4_read 53 M_X4_kindOf 2 := ⟨tw544, tw545, np_X4_kindOf, by decide, by decide⟩
theorem ss_X4_read_57 : SiteS M_X4_read 57 M_X4_shapeOf 1 := ⟨tw620, tw621, np_X4_shapeOf, by decide, by decide⟩
theorem sv_X4_read_61 : SiteV M_X4_read 61 M_J0_length_8abf5 0 := ⟨tw630, tw573, tw574, np_J0_length_8abf5, by decide, by decide⟩
theorem sv_X4_read_67 : SiteV M_X4_read 67 M_J0_charAt_5068e 1 := ⟨tw631, tw583, tw584, np_J0_charAt_5068e, by decide, by decide⟩
theorem sv_X4_read_71 : SiteV M_X4_read 71 M_X4_takesNumber 1 := ⟨tw632, tw634, tw3, np_X4_takesNumber, by decide, by decide⟩
theorem sv_X4_read_75 : SiteV M_X4_read 75 M_X4_takesWord 1 := ⟨tw641, tw643, tw4, np_X4_takesWord, by decide, by decide⟩
theorem sv_X4_takesNumber_42 : SiteV M_X4_takesNumber 42 M_X10_next 0 := ⟨tw527, tw528, tw529, np_X10_next, by decide, by decide⟩
theorem sv_X4_takesNumber_78 : SiteV M_X4_takesNumber 78 M_X10_number 0 := ⟨tw636, tw637, tw638, np_X10_number, by decide, by decide⟩
theorem ss_X4_takesNumber_81 : SiteS M_X4_takesNumber 81 M_X5_set 3 := ⟨tw640, tw513, np_X5_set, by decide, by decide⟩
theorem sv_X4_takesWord_42 : SiteV M_X4_takesWord 42 M_X10_next 0 := ⟨tw527, tw528, tw529, np_X10_next, by decide, by decide⟩
theorem ss_X4_takesWord_81 : SiteS M_X4_takesWord 81 M_X5_set 3 := ⟨tw640, tw513, np_X5_set, by decide, by decide⟩
theorem sv_X4_takesWord_87 : SiteV M_X4_takesWord 87 M_X10_isWord 0 := ⟨tw645, tw646, tw647, np_X10_isWord, by decide, by decide⟩
theorem sv_X4_takesWord_91 : SiteV M_X4_takesWord 91 M_X10_spelling 0 := ⟨tw649, tw650, tw651, np_X10_spelling, by decide, by decide⟩
theorem ss_X4_value_94 : SiteS M_X4_value 94 M_X5_at 2 := ⟨tw665, tw498, np_X5_at, by decide, by decide⟩
theorem ss_X5_copy_11 : SiteS M_X5_copy 11 M_J9_min_7cf53 2 := ⟨tw829, tw675, np_J9_min_7cf53, by decide, by decide⟩
theorem sc_X5_copy_17 : SiteC M_X5_copy 17 := ⟨tw830, tw832, tw831, tw156, by decide, by decide⟩
theorem ss_X5_firstBit_23 : SiteS M_X5_firstBit 23 M_J6_bitCount_0f7a4 1 := ⟨tw879, tw880, np_J6_bitCount_0f7a4, by decide, by decide⟩
theorem ss_X5_lastBit_29 : SiteS M_X5_lastBit 29 M_X5_bit 2 := ⟨tw1004, tw925, np_X5_bit, by decide, by decide⟩
theorem ss_X5_runAt_29 : SiteS M_X5_runAt 29 M_X5_bit 2 := ⟨tw1004, tw925, np_X5_bit, by decide, by decide⟩
theorem ss_X5_runs_23 : SiteS M_X5_runs 23 M_J6_bitCount_0f7a4 1 := ⟨tw879, tw880, np_J6_bitCount_0f7a4, by decide, by decide⟩
theorem ss_X6_add_39 : SiteS M_X6_add 39 M_X5_set 3 := ⟨tw776, tw513, np_X5_set, by decide, by decide⟩
theorem ss_X6_add_46 : SiteS M_X6_add 46 M_J9_min_7cf53 2 := ⟨tw777, tw675, np_J9_min_7cf53, by decide, by decide⟩
theorem sv_X6_add_55 : SiteV M_X6_add 55 M_X4_value 1 := ⟨tw778, tw662, tw663, np_X4_value, by decide, by decide⟩
theorem ss_X6_add_60 : SiteS M_X6_add 60 M_X5_at 2 := ⟨tw779, tw498, np_X5_at, by decide, by decide⟩
theorem sv_X6_add_64 : SiteV M_X6_add 64 M_X6_wordsOf 1 := ⟨tw780, tw781, tw782, np_X6_wordsOf, by decide, by decide⟩
theorem ss_X6_copyFrom_28 : SiteS M_X6_copyFrom 28 M_X5_copy 2 := ⟨tw839, tw827, np_X5_copy, by decide, by decide⟩
theorem so_X6_init_3 : Cond.methodLink (mY M_X6_init).cls 3 objectInit ∈ GW ∧ Cond.instanceMethod objectInit ∈ GW ∧ Cond.code objectInit ⟨#[0xb1]⟩ 1 none ∈ GW ∧ 1 ≤ mF M_X6_init ∧ 20 ≤ mW M_X6_init := ⟨tw265, tw165, tw166, by decide, by decide⟩
theorem ss_X6_kindOf_60 : SiteS M_X6_kindOf 60 M_X5_at 2 := ⟨tw779, tw498, np_X5_at, by decide, by decide⟩
theorem ss_X6_numberOf_60 : SiteS M_X6_numberOf 60 M_X5_at 2 := ⟨tw779, tw498, np_X5_at, by decide, by decide⟩
theorem ss_X6_wordOf_60 : SiteS M_X6_wordOf 60 M_X5_at 2 := ⟨tw779, tw498, np_X5_at, by decide, by decide⟩
theorem ss_X6_wordsOf_60 : SiteS M_X6_wordsOf 60 M_X5_at 2 := ⟨tw779, tw498, np_X5_at, by decide, by decide⟩
theorem so_X7_init_3 : Cond.methodLink (mY M_X7_init).cls 3 objectInit ∈ GW ∧ Cond.instanceMethod objectInit ∈ GW ∧ Cond.code objectInit ⟨#[0xb1]⟩ 1 none ∈ GW ∧ 1 ≤ mF M_X7_init ∧ 20 ≤ mW M_X7_init := ⟨tw330, tw165, tw166, by decide, by decide⟩
theorem si_X7_init_11 : SiteI M_X7_init 11 M_X4_init 0 (some "VersionSearch") := ⟨by decide +kernel, tw334, rfl, rfl, np_X4_init, by decide, by decide⟩
theorem si_X7_init_20 : SiteI M_X7_init 20 M_X0_init 0 (some "VersionSearch") := ⟨by decide +kernel, tw208, rfl, rfl, np_X0_init, by decide, by decide⟩
theorem si_X7_init_27 : SiteI M_X7_init 27 M_X6_init 0 (some "VersionSearch") := ⟨by decide +kernel, tw263, rfl, rfl, np_X6_init, by decide, by decide⟩
theorem si_X7_init_34 : SiteI M_X7_init 34 M_X3_init 0 (some "VersionSearch") := ⟨by decide +kernel, tw287, rfl, rfl, np_X3_init, by decide, by decide⟩
theorem sv_X7_isThere_94 : SiteV M_X7_isThere 94 M_X4_value 1 := ⟨tw661, tw662, tw663, np_X4_value, by decide, by decide⟩
theorem sv_X7_isThere_155 : SiteV M_X7_isThere 155 M_X0_hasVersion 2 := ⟨tw716, tw717, tw718, np_X0_hasVersion, by decide, by decide⟩
theorem sv_X7_makeVersion_94 : SiteV M_X7_makeVersion 94 M_X4_value 1 := ⟨tw661, tw662, tw663, np_X4_value, by decide, by decide⟩
theorem sv_X7_makeVersion_167 : SiteV M_X7_makeVersion 167 M_X0_addDocument 3 := ⟨tw724, tw725, tw726, np_X0_addDocument, by decide, by decide⟩
theorem sv_X7_makeVersion_171 : SiteV M_X7_makeVersion 171 M_X0_putWords 5 := ⟨tw748, tw749, tw750, np_X0_putWords, by decide, by decide⟩
theorem sv_X7_makeVersion_175 : SiteV M_X7_makeVersion 175 M_X0_cutWords 4 := ⟨tw752, tw753, tw754, np_X0_cutWords, by decide, by decide⟩
theorem sv_X7_makeVersion_179 : SiteV M_X7_makeVersion 179 M_X0_moveWord 4 := ⟨tw760, tw761, tw762, np_X0_moveWord, by decide, by decide⟩
theorem sv_X7_makeVersion_182 : SiteV M_X7_makeVersion 182 M_X0_goBack 3 := ⟨tw764, tw765, tw766, np_X0_goBack, by decide, by decide⟩
theorem ss_X7_most_120 : SiteS M_X7_most 120 M_J9_min_7cf53 2 := ⟨tw674, tw675, np_J9_min_7cf53, by decide, by decide⟩
theorem sv_X7_noteFirstToken_87 : SiteV M_X7_noteFirstToken 87 M_X7_note 2 := ⟨tw653, tw655, tw5, np_X7_note, by decide, by decide⟩
theorem sv_X7_noteFirstToken_94 : SiteV M_X7_noteFirstToken 94 M_X4_value 1 := ⟨tw661, tw662, tw663, np_X4_value, by decide, by decide⟩
theorem sv_X7_noteFirstToken_138 : SiteV M_X7_noteFirstToken 138 M_X0_latestLength 1 := ⟨tw699, tw700, tw701, np_X0_latestLength, by decide, by decide⟩
theorem sv_X7_noteFirstToken_144 : SiteV M_X7_noteFirstToken 144 M_X0_versionsOf 1 := ⟨tw690, tw691, tw692, np_X0_versionsOf, by decide, by decide⟩
theorem sv_X7_noteFirstToken_147 : SiteV M_X7_noteFirstToken 147 M_X0_hasDocument 1 := ⟨tw695, tw696, tw697, np_X0_hasDocument, by decide, by decide⟩
theorem sv_X7_noteFirstToken_151 : SiteV M_X7_noteFirstToken 151 M_X7_isThere 2 := ⟨tw712, tw714, tw12, np_X7_isThere, by decide, by decide⟩
theorem sv_X7_noteNoText_57 : SiteV M_X7_noteNoText 57 M_X10_rewind 0 := ⟨tw519, tw520, tw521, np_X10_rewind, by decide, by decide⟩
theorem sv_X7_noteNoText_62 : SiteV M_X7_noteNoText 62 M_X4_read 2 := ⟨tw523, tw524, tw525, np_X4_read, by decide, by decide⟩
theorem sv_X7_noteNoText_87 : SiteV M_X7_noteNoText 87 M_X7_note 2 := ⟨tw653, tw655, tw5, np_X7_note, by decide, by decide⟩
theorem sv_X7_noteTooManyWords_87 : SiteV M_X7_noteTooManyWords 87 M_X7_note 2 := ⟨tw653, tw655, tw5, np_X7_note, by decide, by decide⟩
theorem ss_X7_noteTooManyWords_108 : SiteS M_X7_noteTooManyWords 108 M_X5_at 2 := ⟨tw677, tw498, np_X5_at, by decide, by decide⟩
theorem sv_X7_noteWhatCanNotBe_87 : SiteV M_X7_noteWhatCanNotBe 87 M_X7_note 2 := ⟨tw653, tw655, tw5, np_X7_note, by decide, by decide⟩
theorem sv_X7_noteWhatCanNotBe_94 : SiteV M_X7_noteWhatCanNotBe 94 M_X4_value 1 := ⟨tw661, tw662, tw663, np_X4_value, by decide, by decide⟩
theorem sv_X7_noteWhatCanNotBe_98 : SiteV M_X7_noteWhatCanNotBe 98 M_X7_least 1 := ⟨tw666, tw668, tw7, np_X7_least, by decide, by decide⟩
theorem sv_X7_noteWhatCanNotBe_101 : SiteV M_X7_noteWhatCanNotBe 101 M_X7_most 1 := ⟨tw670, tw672, tw8, np_X7_most, by decide, by decide⟩
theorem ss_X7_noteWhatCanNotBe_108 : SiteS M_X7_noteWhatCanNotBe 108 M_X5_at 2 := ⟨tw677, tw498, np_X5_at, by decide, by decide⟩
theorem sv_X7_take_46 : SiteV M_X7_take 46 M_X0_clear 0 := ⟨tw508, tw509, tw510, np_X0_clear, by decide, by decide⟩
theorem sv_X7_take_53 : SiteV M_X7_take 53 M_X7_noteNoText 2 := ⟨tw515, tw517, tw1, np_X7_noteNoText, by decide, by decide⟩
theorem sv_X7_take_57 : SiteV M_X7_take 57 M_X10_rewind 0 := ⟨tw519, tw520, tw521, np_X10_rewind, by decide, by decide⟩
theorem sv_X7_take_62 : SiteV M_X7_take 62 M_X4_read 2 := ⟨tw523, tw524, tw525, np_X4_read, by decide, by decide⟩
theorem sv_X7_take_66 : SiteV M_X7_take 66 M_X7_noteWhatCanNotBe 0 := ⟨tw657, tw659, tw6, np_X7_noteWhatCanNotBe, by decide, by decide⟩
theorem sv_X7_take_69 : SiteV M_X7_take 69 M_X7_takeVersion 1 := ⟨tw678, tw680, tw9, np_X7_takeVersion, by decide, by decide⟩
theorem sv_X7_take_75 : SiteV M_X7_take 75 M_X7_takeQuestion 0 := ⟨tw768, tw770, tw19, np_X7_takeQuestion, by decide, by decide⟩
theorem sv_X7_take_78 : SiteV M_X7_take 78 M_X7_takeFact 0 := ⟨tw784, tw786, tw20, np_X7_takeFact, by decide, by decide⟩
theorem sv_X7_take_81 : SiteV M_X7_take 81 M_X0_listWords 0 := ⟨tw794, tw795, tw796, np_X0_listWords, by decide, by decide⟩
theorem sv_X7_takeFact_87 : SiteV M_X7_takeFact 87 M_X7_note 2 := ⟨tw653, tw655, tw5, np_X7_note, by decide, by decide⟩
theorem sv_X7_takeFact_190 : SiteV M_X7_takeFact 190 M_X3_add 1 := ⟨tw788, tw789, tw790, np_X3_add, by decide, by decide⟩
theorem sv_X7_takeQuestion_87 : SiteV M_X7_takeQuestion 87 M_X7_note 2 := ⟨tw653, tw655, tw5, np_X7_note, by decide, by decide⟩
theorem sv_X7_takeQuestion_132 : SiteV M_X7_takeQuestion 132 M_X7_noteTooManyWords 1 := ⟨tw682, tw684, tw10, np_X7_noteTooManyWords, by decide, by decide⟩
theorem sv_X7_takeQuestion_186 : SiteV M_X7_takeQuestion 186 M_X6_add 1 := ⟨tw772, tw773, tw774, np_X6_add, by decide, by decide⟩
theorem sv_X7_takeVersion_87 : SiteV M_X7_takeVersion 87 M_X7_note 2 := ⟨tw653, tw655, tw5, np_X7_note, by decide, by decide⟩
theorem sv_X7_takeVersion_94 : SiteV M_X7_takeVersion 94 M_X4_value 1 := ⟨tw661, tw662, tw663, np_X4_value, by decide, by decide⟩
theorem sv_X7_takeVersion_132 : SiteV M_X7_takeVersion 132 M_X7_noteTooManyWords 1 := ⟨tw682, tw684, tw10, np_X7_noteTooManyWords, by decide, by decide⟩
theorem sv_X7_takeVersion_135 : SiteV M_X7_takeVersion 135 M_X7_noteFirstToken 0 := ⟨tw686, tw688, tw11, np_X7_noteFirstToken, by decide, by decide⟩
theorem sv_X7_takeVersion_138 : SiteV M_X7_takeVersion 138 M_X0_latestLength 1 := ⟨tw699, tw700, tw701, np_X0_latestLength, by decide, by decide⟩
theorem sv_X7_takeVersion_141 : SiteV M_X7_takeVersion 141 M_X7_makeVersion 1 := ⟨tw720, tw722, tw13, np_X7_makeVersion, by decide, by decide⟩
theorem sv_X8_alwaysIn_41 : SiteV M_X8_alwaysIn 41 M_X8_held 2 := ⟨tw1106, tw1107, tw1108, np_X8_held, by decide, by decide⟩
theorem sv_X8_alwaysIn_48 : SiteV M_X8_alwaysIn 48 M_X0_everyVersion 1 := ⟨tw1112, tw938, tw939, np_X0_everyVersion, by decide, by decide⟩
theorem sv_X8_areMany_37 : SiteV M_X8_areMany 37 M_X6_numberOf 2 := ⟨tw1105, tw1085, tw1086, np_X6_numberOf, by decide, by decide⟩
theorem sv_X8_areMany_70 : SiteV M_X8_areMany 70 M_X6_wordOf 2 := ⟨tw1125, tw1090, tw1091, np_X6_wordOf, by decide, by decide⟩
theorem ss_X8_areMany_73 : SiteS M_X8_areMany 73 M_X2_timesIn 4 := ⟨tw1137, tw1043, np_X2_timesIn, by decide, by decide⟩
theorem sv_X8_areNear_37 : SiteV M_X8_areNear 37 M_X6_numberOf 2 := ⟨tw1105, tw1085, tw1086, np_X6_numberOf, by decide, by decide⟩
theorem sv_X8_areNear_70 : SiteV M_X8_areNear 70 M_X6_wordOf 2 := ⟨tw1125, tw1090, tw1091, np_X6_wordOf, by decide, by decide⟩
theorem sv_X8_areNear_82 : SiteV M_X8_areNear 82 M_X0_lengthOf 2 := ⟨tw1123, tw706, tw707, np_X0_lengthOf, by decide, by decide⟩
theorem sv_X8_areNear_85 : SiteV M_X8_areNear 85 M_X0_spellingAt 3 := ⟨tw1124, tw903, tw904, np_X0_spellingAt, by decide, by decide⟩
theorem ss_X8_areNear_89 : SiteS M_X8_areNear 89 M_J9_abs_0f7a4 1 := ⟨tw1130, tw1131, np_J9_abs_0f7a4, by decide, by decide⟩
theorem sv_X8_asOf_41 : SiteV M_X8_asOf 41 M_X8_held 2 := ⟨tw1106, tw1107, tw1108, np_X8_held, by decide, by decide⟩
theorem sv_X8_asOf_54 : SiteV M_X8_asOf 54 M_X0_versionsOf 1 := ⟨tw1117, tw691, tw692, np_X0_versionsOf, by decide, by decide⟩
theorem sv_X8_asOf_99 : SiteV M_X8_asOf 99 M_X0_dateOf 2 := ⟨tw1178, tw956, tw957, np_X0_dateOf, by decide, by decide⟩
theorem ss_X8_asOf_102 : SiteS M_X8_asOf 102 M_X5_bit 2 := ⟨tw1179, tw925, np_X5_bit, by decide, by decide⟩
theorem sv_X8_beginnings_70 : SiteV M_X8_beginnings 70 M_X6_wordOf 2 := ⟨tw1125, tw1090, tw1091, np_X6_wordOf, by decide, by decide⟩
theorem sv_X8_beginnings_79 : SiteV M_X8_beginnings 79 M_X6_wordsOf 1 := ⟨tw1122, tw781, tw782, np_X6_wordsOf, by decide, by decide⟩
theorem sv_X8_beginnings_82 : SiteV M_X8_beginnings 82 M_X0_lengthOf 2 := ⟨tw1123, tw706, tw707, np_X0_lengthOf, by decide, by decide⟩
theorem sv_X8_beginnings_85 : SiteV M_X8_beginnings 85 M_X0_spellingAt 3 := ⟨tw1124, tw903, tw904, np_X0_spellingAt, by decide, by decide⟩
theorem sv_X8_changeAt_105 : SiteV M_X8_changeAt 105 M_X0_versionsOfAll 0 := ⟨tw1169, tw862, tw863, np_X0_versionsOfAll, by decide, by decide⟩
theorem sv_X8_changeAt_109 : SiteV M_X8_changeAt 109 M_X8_isChange 3 := ⟨tw1170, tw1172, tw33, np_X8_isChange, by decide, by decide⟩
theorem sv_X8_changes_105 : SiteV M_X8_changes 105 M_X0_versionsOfAll 0 := ⟨tw1169, tw862, tw863, np_X0_versionsOfAll, by decide, by decide⟩
theorem sv_X8_changes_109 : SiteV M_X8_changes 109 M_X8_isChange 3 := ⟨tw1170, tw1172, tw33, np_X8_isChange, by decide, by decide⟩
theorem sv_X8_everIn_41 : SiteV M_X8_everIn 41 M_X8_held 2 := ⟨tw1106, tw1107, tw1108, np_X8_held, by decide, by decide⟩
theorem ss_X8_held_33 : SiteS M_X8_held 33 M_X5_at 2 := ⟨tw1110, tw498, np_X5_at, by decide, by decide⟩
theorem sv_X8_heldMost_127 : SiteV M_X8_heldMost 127 M_X8_versionsHeld 2 := ⟨tw1214, tw1181, tw1182, np_X8_versionsHeld, by decide, by decide⟩
theorem so_X8_init_3 : Cond.methodLink (mY M_X8_init).cls 3 objectInit ∈ GW ∧ Cond.instanceMethod objectInit ∈ GW ∧ Cond.code objectInit ⟨#[0xb1]⟩ 1 none ∈ GW ∧ 1 ≤ mF M_X8_init ∧ 20 ≤ mW M_X8_init := ⟨tw423, tw165, tw166, by decide, by decide⟩
theorem sv_X8_isAhead_41 : SiteV M_X8_isAhead 41 M_X8_held 2 := ⟨tw1106, tw1107, tw1108, np_X8_held, by decide, by decide⟩
theorem ss_X8_isAhead_94 : SiteS M_X8_isAhead 94 M_J6_bitCount_0f7a4 1 := ⟨tw1184, tw880, np_J6_bitCount_0f7a4, by decide, by decide⟩
theorem sv_X8_isAhead_121 : SiteV M_X8_isAhead 121 M_X8_latestHeld 3 := ⟨tw1197, tw1199, tw36, np_X8_latestHeld, by decide, by decide⟩
theorem sv_X8_isChange_113 : SiteV M_X8_isChange 113 M_X8_asOf 3 := ⟨tw1174, tw1175, tw1176, np_X8_asOf, by decide, by decide⟩
theorem sv_X8_latestHeld_41 : SiteV M_X8_latestHeld 41 M_X8_held 2 := ⟨tw1106, tw1107, tw1108, np_X8_held, by decide, by decide⟩
theorem sv_X8_latestHeld_54 : SiteV M_X8_latestHeld 54 M_X0_versionsOf 1 := ⟨tw1117, tw691, tw692, np_X0_versionsOf, by decide, by decide⟩
theorem ss_X8_latestHeld_102 : SiteS M_X8_latestHeld 102 M_X5_bit 2 := ⟨tw1179, tw925, np_X5_bit, by decide, by decide⟩
theorem sv_X8_look_23 : SiteV M_X8_look 23 M_X8_lookIn 4 := ⟨tw1101, tw1103, tw29, np_X8_lookIn, by decide, by decide⟩
theorem ss_X8_look_27 : SiteS M_X8_look 27 M_X5_set 3 := ⟨tw1138, tw513, np_X5_set, by decide, by decide⟩
theorem sv_X8_lookAtWords_44 : SiteV M_X8_lookAtWords 44 M_X6_kindOf 1 := ⟨tw1111, tw1081, tw1082, np_X6_kindOf, by decide, by decide⟩
theorem sv_X8_lookAtWords_54 : SiteV M_X8_lookAtWords 54 M_X0_versionsOf 1 := ⟨tw1117, tw691, tw692, np_X0_versionsOf, by decide, by decide⟩
theorem sv_X8_lookAtWords_57 : SiteV M_X8_lookAtWords 57 M_X8_beginnings 5 := ⟨tw1118, tw1119, tw1120, np_X8_beginnings, by decide, by decide⟩
theorem sv_X8_lookAtWords_63 : SiteV M_X8_lookAtWords 63 M_X8_areNear 5 := ⟨tw1126, tw1128, tw31, np_X8_areNear, by decide, by decide⟩
theorem sv_X8_lookAtWords_67 : SiteV M_X8_lookAtWords 67 M_X8_areMany 5 := ⟨tw1133, tw1135, tw32, np_X8_areMany, by decide, by decide⟩
theorem sv_X8_lookIn_37 : SiteV M_X8_lookIn 37 M_X6_numberOf 2 := ⟨tw1105, tw1085, tw1086, np_X6_numberOf, by decide, by decide⟩
theorem sv_X8_lookIn_41 : SiteV M_X8_lookIn 41 M_X8_held 2 := ⟨tw1106, tw1107, tw1108, np_X8_held, by decide, by decide⟩
theorem sv_X8_lookIn_44 : SiteV M_X8_lookIn 44 M_X6_kindOf 1 := ⟨tw1111, tw1081, tw1082, np_X6_kindOf, by decide, by decide⟩
theorem sv_X8_lookIn_48 : SiteV M_X8_lookIn 48 M_X0_everyVersion 1 := ⟨tw1112, tw938, tw939, np_X0_everyVersion, by decide, by decide⟩
theorem sv_X8_lookIn_51 : SiteV M_X8_lookIn 51 M_X8_lookAtWords 4 := ⟨tw1113, tw1115, tw30, np_X8_lookAtWords, by decide, by decide⟩
theorem sv_X8_ranked_117 : SiteV M_X8_ranked 117 M_X8_isAhead 4 := ⟨tw1193, tw1195, tw35, np_X8_isAhead, by decide, by decide⟩
theorem sv_X8_sameCouples_131 : SiteV M_X8_sameCouples 131 M_X8_within 3 := ⟨tw1219, tw1220, tw1221, np_X8_within, by decide, by decide⟩
theorem sv_X8_versionsHeld_41 : SiteV M_X8_versionsHeld 41 M_X8_held 2 := ⟨tw1106, tw1107, tw1108, np_X8_held, by decide, by decide⟩
theorem ss_X8_versionsHeld_94 : SiteS M_X8_versionsHeld 94 M_J6_bitCount_0f7a4 1 := ⟨tw1184, tw880, np_J6_bitCount_0f7a4, by decide, by decide⟩
theorem sv_X8_within_41 : SiteV M_X8_within 41 M_X8_held 2 := ⟨tw1106, tw1107, tw1108, np_X8_held, by decide, by decide⟩
theorem sv_X9_archiveAt_77 : SiteV M_X9_archiveAt 77 M_X9_isTold 2 := ⟨tw500, tw502, tw0, np_X9_isTold, by decide, by decide⟩
theorem sv_X9_copyFrom_50 : SiteV M_X9_copyFrom 50 M_X10_copyFrom 1 := ⟨tw1356, tw1357, tw1358, np_X10_copyFrom, by decide, by decide⟩
theorem ss_X9_copyFrom_54 : SiteS M_X9_copyFrom 54 M_X5_copy 2 := ⟨tw1362, tw827, np_X5_copy, by decide, by decide⟩
theorem sv_X9_copyFrom_60 : SiteV M_X9_copyFrom 60 M_X0_copyFrom 1 := ⟨tw822, tw823, tw824, np_X0_copyFrom, by decide, by decide⟩
theorem sv_X9_copyFrom_63 : SiteV M_X9_copyFrom 63 M_X6_copyFrom 1 := ⟨tw835, tw836, tw837, np_X6_copyFrom, by decide, by decide⟩
theorem sv_X9_copyFrom_66 : SiteV M_X9_copyFrom 66 M_X3_copyFrom 1 := ⟨tw840, tw841, tw842, np_X3_copyFrom, by decide, by decide⟩
theorem ss_X9_howMany_69 : SiteS M_X9_howMany 69 M_X5_at 2 := ⟨tw497, tw498, np_X5_at, by decide, by decide⟩
theorem sv_X9_huntAt_77 : SiteV M_X9_huntAt 77 M_X9_isTold 2 := ⟨tw500, tw502, tw0, np_X9_isTold, by decide, by decide⟩
theorem so_X9_init_3 : Cond.methodLink (mY M_X9_init).cls 3 objectInit ∈ GW ∧ Cond.instanceMethod objectInit ∈ GW ∧ Cond.code objectInit ⟨#[0xb1]⟩ 1 none ∈ GW ∧ 1 ≤ mF M_X9_init ∧ 20 ≤ mW M_X9_init := ⟨tw172, tw165, tw166, by decide, by decide⟩
theorem si_X9_init_11 : SiteI M_X9_init 11 M_X10_init 0 (some "VersionSearch") := ⟨by decide +kernel, tw176, rfl, rfl, np_X10_init, by decide, by decide⟩
theorem si_X9_init_47 : SiteI M_X9_init 47 M_X0_init 0 (some "VersionSearch") := ⟨by decide +kernel, tw208, rfl, rfl, np_X0_init, by decide, by decide⟩
theorem si_X9_init_48 : SiteI M_X9_init 48 M_X6_init 0 (some "VersionSearch") := ⟨by decide +kernel, tw263, rfl, rfl, np_X6_init, by decide, by decide⟩
theorem si_X9_init_49 : SiteI M_X9_init 49 M_X3_init 0 (some "VersionSearch") := ⟨by decide +kernel, tw287, rfl, rfl, np_X3_init, by decide, by decide⟩
theorem sv_X9_isTold_73 : SiteV M_X9_isTold 73 M_X9_howMany 1 := ⟨tw493, tw494, tw495, np_X9_howMany, by decide, by decide⟩
theorem sv_X9_keep_60 : SiteV M_X9_keep 60 M_X0_copyFrom 1 := ⟨tw822, tw823, tw824, np_X0_copyFrom, by decide, by decide⟩
theorem sv_X9_keep_63 : SiteV M_X9_keep 63 M_X6_copyFrom 1 := ⟨tw835, tw836, tw837, np_X6_copyFrom, by decide, by decide⟩
theorem sv_X9_keep_66 : SiteV M_X9_keep 66 M_X3_copyFrom 1 := ⟨tw840, tw841, tw842, np_X3_copyFrom, by decide, by decide⟩
theorem sv_X9_keep_73 : SiteV M_X9_keep 73 M_X9_howMany 1 := ⟨tw493, tw494, tw495, np_X9_howMany, by decide, by decide⟩
theorem ss_X9_keep_98 : SiteS M_X9_keep 98 M_J9_max_7cf53 2 := ⟨tw845, tw846, np_J9_max_7cf53, by decide, by decide⟩
theorem ss_X9_keep_104 : SiteS M_X9_keep 104 M_X5_set 3 := ⟨tw848, tw513, np_X5_set, by decide, by decide⟩
theorem sv_X9_placeFor_73 : SiteV M_X9_placeFor 73 M_X9_howMany 1 := ⟨tw493, tw494, tw495, np_X9_howMany, by decide, by decide⟩
theorem sv_X9_placeFor_77 : SiteV M_X9_placeFor 77 M_X9_isTold 2 := ⟨tw500, tw502, tw0, np_X9_isTold, by decide, by decide⟩
theorem sv_X9_placeFor_81 : SiteV M_X9_placeFor 81 M_X9_isSort 1 := ⟨tw489, tw490, tw491, np_X9_isSort, by decide, by decide⟩
theorem sv_X9_questionsAt_77 : SiteV M_X9_questionsAt 77 M_X9_isTold 2 := ⟨tw500, tw502, tw0, np_X9_isTold, by decide, by decide⟩
