theorem aw_ws0 : ∀ w ∈ u_ws RX0 TX0 3, w ∈ TT := by
  have h : u_ws RX0 TX0 3 = [134, 136, 138].filterMap (fun i => tables_1[i]?) := by decide +kernel
  have hg : (u_ws RX0 TX0 3).all goodWord = true := by decide +kernel
  intro w hw
  refine List.mem_filter.mpr ⟨List.mem_append_right _ ?_, List.all_eq_true.mp hg w hw⟩
  rw [h] at hw
  obtain ⟨i, -, hi⟩ := List.mem_filterMap.mp hw
  exact List.mem_of_getElem? hi
theorem aw_ws1 : ∀ w ∈ u_ws RX1 TX1 3, w ∈ TT := by
  have h : u_ws RX1 TX1 3 = [80, 82, 84].filterMap (fun i => tables_1[i]?) := by decide +kernel
  have hg : (u_ws RX1 TX1 3).all goodWord = true := by decide +kernel
  intro w hw
  refine List.mem_filter.mpr ⟨List.mem_append_right _ ?_, List.all_eq_true.mp hg w hw⟩
  rw [h] at hw
  obtain ⟨i, -, hi⟩ := List.mem_filterMap.mp hw
  exact List.mem_of_getElem? hi
theorem aw_ws2 : ∀ w ∈ u_ws RX2 TX2 3, w ∈ TT := by
  have h : u_ws RX2 TX2 3 = [180, 182, 184].filterMap (fun i => tables_1[i]?) := by decide +kernel
  have hg : (u_ws RX2 TX2 3).all goodWord = true := by decide +kernel
  intro w hw
  refine List.mem_filter.mpr ⟨List.mem_append_right _ ?_, List.all_eq_true.mp hg w hw⟩
  rw [h] at hw
  obtain ⟨i, -, hi⟩ := List.mem_filterMap.mp hw
  exact List.mem_of_getElem? hi
theorem aw_ws3 : ∀ w ∈ u_ws RX3 TX3 9, w ∈ TT := by
  have h : u_ws RX3 TX3 9 = [104, 106, 108, 110, 112, 114, 116, 118, 120].filterMap (fun i => tables_1[i]?) := by decide +kernel
  have hg : (u_ws RX3 TX3 9).all goodWord = true := by decide +kernel
  intro w hw
  refine List.mem_filter.mpr ⟨List.mem_append_right _ ?_, List.all_eq_true.mp hg w hw⟩
  rw [h] at hw
  obtain ⟨i, -, hi⟩ := List.mem_filterMap.mp hw
  exact List.mem_of_getElem? hi
theorem aw_ws4 : ∀ w ∈ u_ws RX4 TX4 5, w ∈ TT := by
  have h : u_ws RX4 TX4 5 = [434, 436, 438, 440, 442].filterMap (fun i => tables_1[i]?) := by decide +kernel
  have hg : (u_ws RX4 TX4 5).all goodWord = true := by decide +kernel
  intro w hw
  refine List.mem_filter.mpr ⟨List.mem_append_right _ ?_, List.all_eq_true.mp hg w hw⟩
  rw [h] at hw
  obtain ⟨i, -, hi⟩ := List.mem_filterMap.mp hw
  exact List.mem_of_getElem? hi
theorem aw_ws5 : ∀ w ∈ u_ws RX5 TX5 2, w ∈ TT := by
  have h : u_ws RX5 TX5 2 = [66, 68].filterMap (fun i => tables_1[i]?) := by decide +kernel
  have hg : (u_ws RX5 TX5 2).all goodWord = true := by decide +kernel
  intro w hw
  refine List.mem_filter.mpr ⟨List.mem_append_right _ ?_, List.all_eq_true.mp hg w hw⟩
  rw [h] at hw
  obtain ⟨i, -, hi⟩ := List.mem_filterMap.mp hw
  exact List.mem_of_getElem? hi
theorem aw_ws6 : ∀ w ∈ u_ws RX6 TX6 2, w ∈ TT := by
  have h : u_ws RX6 TX6 2 = [52, 54].filterMap (fun i => tables_1[i]?) := by decide +kernel
  have hg : (u_ws RX6 TX6 2).all goodWord = true := by decide +kernel
  intro w hw
  refine List.mem_filter.mpr ⟨List.mem_append_right _ ?_, List.all_eq_true.mp hg w hw⟩
  rw [h] at hw
  obtain ⟨i, -, hi⟩ := List.mem_filterMap.mp hw
  exact List.mem_of_getElem? hi
theorem aw_ws7 : ∀ w ∈ u_ws RX7 TX7 3, w ∈ TT := by
  have h : u_ws RX7 TX7 3 = [163, 165, 167].filterMap (fun i => tables_1[i]?) := by decide +kernel
  have hg : (u_ws RX7 TX7 3).all goodWord = true := by decide +kernel
  intro w hw
  refine List.mem_filter.mpr ⟨List.mem_append_right _ ?_, List.all_eq_true.mp hg w hw⟩
  rw [h] at hw
  obtain ⟨i, -, hi⟩ := List.mem_filterMap.mp hw
  exact List.mem_of_getElem? hi
theorem aw_ws8 : ∀ w ∈ u_ws RX8 TX8 2, w ∈ TT := by
  have h : u_ws RX8 TX8 2 = [149, 151].filterMap (fun i => tables_1[i]?) := by decide +kernel
  have hg : (u_ws RX8 TX8 2).all goodWord = true := by decide +kernel
  intro w hw
  refine List.mem_filter.mpr ⟨List.mem_append_right _ ?_, List.all_eq_true.mp hg w hw⟩
  rw [h] at hw
  obtain ⟨i, -, hi⟩ := List.mem_filterMap.mp hw
  exact List.mem_of_getElem? hi
theorem aw_ws9 : ∀ w ∈ u_ws RX9 TX9 2, w ∈ TT := by
  have h : u_ws RX9 TX9 2 = [38, 40].filterMap (fun i => tables_1[i]?) := by decide +kernel
  have hg : (u_ws RX9 TX9 2).all goodWord = true := by decide +kernel
  intro w hw
  refine List.mem_filter.mpr ⟨List.mem_append_right _ ?_, List.all_eq_true.mp hg w hw⟩
  rw [h] at hw
  obtain ⟨i, -, hi⟩ := List.mem_filterMap.mp hw
  exact List.mem_of_getElem? hi
theorem aw_ws10 : ∀ w ∈ u_ws RX10 TX10 17, w ∈ TT := by
  have h : u_ws RX10 TX10 17 = [204, 206, 208, 210, 212, 214, 216, 218, 220, 222, 224, 226, 228, 230, 232, 234, 236].filterMap (fun i => tables_1[i]?) := by decide +kernel
  have hg : (u_ws RX10 TX10 17).all goodWord = true := by decide +kernel
  intro w hw
  refine List.mem_filter.mpr ⟨List.mem_append_right _ ?_, List.all_eq_true.mp hg w hw⟩
  rw [h] at hw
  obtain ⟨i, -, hi⟩ := List.mem_filterMap.mp hw
  exact List.mem_of_getElem? hi
theorem aw_ws11 : ∀ w ∈ u_ws RX11 TX11 56, w ∈ TT := by
  have h : u_ws RX11 TX11 56 = [1285, 1287, 1289, 1291, 1293, 1295, 1297, 1299, 1301, 1303, 1305, 1307, 1309, 1311, 1313, 1315, 1317, 1319, 1321, 1323, 1325, 1327, 1329, 1331, 1333, 1335, 1337, 1339, 1341, 1343, 1345, 1347, 1349, 1351, 1353, 1355, 1357, 1359, 1361, 1363, 1365, 1367, 1369, 1371, 1373, 1375, 1377, 1379, 1381, 1383, 1385, 1387, 1389, 1391, 1393, 1395].filterMap (fun i => tables_1[i]?) := by decide +kernel
  have hg : (u_ws RX11 TX11 56).all goodWord = true := by decide +kernel
  intro w hw
  refine List.mem_filter.mpr ⟨List.mem_append_right _ ?_, List.all_eq_true.mp hg w hw⟩
  rw [h] at hw
  obtain ⟨i, -, hi⟩ := List.mem_filterMap.mp hw
  exact List.mem_of_getElem? hi
