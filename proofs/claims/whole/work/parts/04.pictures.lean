/-! the methods' words; pictures of the objects -/
theorem vmX8_type : VM RX8 yX8_type cX8_type 2 (some .int) 1 := ⟨mw132, mw133, mw2, mw134, rfl, by decide, by decide, by decide +kernel⟩
theorem smX8_within : SM yX8_within cX8_within 3 (some .boolean) 3 := ⟨mw138, mw2, mw139, by decide, by decide, by decide +kernel⟩
theorem vmX9_type : VM RX9 yX9_type cX9_type 2 (some .int) 1 := ⟨mw141, mw142, mw5, mw143, rfl, by decide, by decide, by decide +kernel⟩
theorem smX9_in : SM yX9_in cX9_in 3 (some .boolean) 3 := ⟨mw147, mw5, mw148, by decide, by decide, by decide +kernel⟩
theorem vmX8_clear : VM RX8 yX8_clear cX8_clear 2 (some .int) 0 := ⟨mw150, mw151, mw2, mw152, rfl, by decide, by decide, by decide +kernel⟩
theorem vmX9_clear : VM RX9 yX9_clear cX9_clear 2 (some .int) 0 := ⟨mw154, mw155, mw5, mw156, rfl, by decide, by decide, by decide +kernel⟩
theorem vmX8_republic : VM RX8 yX8_republic cX8_republic 3 (some .int) 0 := ⟨mw158, mw159, mw2, mw160, rfl, by decide, by decide, by decide +kernel⟩
theorem vmX4_read : VM RX4 yX4_read cX4_read 3 (some .int) 1 := ⟨mw165, mw166, mw18, mw167, rfl, by decide, by decide, by decide +kernel⟩
theorem vmX1_empty : VM RX1 yX1_empty cX1_empty 1 none 0 := ⟨mw169, mw170, mw22, mw171, rfl, by decide, by decide, by decide +kernel⟩
theorem vmX4_nextToken : VM RX4 yX4_nextToken cX4_nextToken 2 none 1 := ⟨mw177, mw178, mw18, mw179, rfl, by decide, by decide, by decide +kernel⟩
theorem smX4_isDigit : SM yX4_isDigit cX4_isDigit 1 (some .boolean) 1 := ⟨mw183, mw18, mw184, by decide, by decide, by decide +kernel⟩
theorem vmX4_takeNumber : VM RX4 yX4_takeNumber cX4_takeNumber 4 none 1 := ⟨mw186, mw187, mw18, mw188, rfl, by decide, by decide, by decide +kernel⟩
theorem vmX4_readItem : VM RX4 yX4_readItem cX4_readItem 3 (some .boolean) 2 := ⟨mw190, mw191, mw18, mw192, rfl, by decide, by decide, by decide +kernel⟩
theorem vmX4_readNames : VM RX4 yX4_readNames cX4_readNames 2 (some .boolean) 1 := ⟨mw195, mw196, mw18, mw197, rfl, by decide, by decide, by decide +kernel⟩
theorem vmX4_readNumber : VM RX4 yX4_readNumber cX4_readNumber 4 (some .boolean) 3 := ⟨mw200, mw201, mw18, mw202, rfl, by decide, by decide, by decide +kernel⟩
theorem vmX4_isEnded : VM RX4 yX4_isEnded cX4_isEnded 2 (some .boolean) 1 := ⟨mw204, mw205, mw18, mw206, rfl, by decide, by decide, by decide +kernel⟩
theorem vmX4_readPerson : VM RX4 yX4_readPerson cX4_readPerson 4 (some .boolean) 1 := ⟨mw208, mw209, mw18, mw210, rfl, by decide, by decide, by decide +kernel⟩
theorem vmX1_addPerson : VM RX1 yX1_addPerson cX1_addPerson 4 none 3 := ⟨mw212, mw213, mw22, mw214, rfl, by decide, by decide, by decide +kernel⟩
theorem vmX4_readQuarrel : VM RX4 yX4_readQuarrel cX4_readQuarrel 3 (some .boolean) 1 := ⟨mw219, mw220, mw18, mw221, rfl, by decide, by decide, by decide +kernel⟩
theorem vmX4_readLaws : VM RX4 yX4_readLaws cX4_readLaws 2 (some .boolean) 1 := ⟨mw224, mw225, mw18, mw226, rfl, by decide, by decide, by decide +kernel⟩
theorem vmX1_take : VM RX1 yX1_take cX1_take 2 none 1 := ⟨mw230, mw231, mw22, mw232, rfl, by decide, by decide, by decide +kernel⟩
theorem vmX2_take : VM RX2 yX2_take cX2_take 2 none 1 := ⟨mw238, mw239, mw47, mw240, rfl, by decide, by decide, by decide +kernel⟩
theorem vmX9_republic : VM RX9 yX9_republic cX9_republic 3 (some .int) 0 := ⟨mw243, mw244, mw5, mw245, rfl, by decide, by decide, by decide +kernel⟩
theorem vmX9_advances : VM RX9 yX9_advances cX9_advances 2 none 0 := ⟨mw251, mw252, mw5, mw253, rfl, by decide, by decide, by decide +kernel⟩
theorem vmX9_letterAt : VM RX9 yX9_letterAt cX9_letterAt 2 (some .int) 1 := ⟨mw257, mw258, mw5, mw259, rfl, by decide, by decide, by decide +kernel⟩
theorem vmX9_isWell : VM RX9 yX9_isWell cX9_isWell 1 (some .boolean) 0 := ⟨mw261, mw262, mw5, mw263, rfl, by decide, by decide, by decide +kernel⟩
theorem vmX9_mayBegin : VM RX9 yX9_mayBegin cX9_mayBegin 2 (some .boolean) 1 := ⟨mw265, mw266, mw5, mw267, rfl, by decide, by decide, by decide +kernel⟩
theorem vmX9_takes : VM RX9 yX9_takes cX9_takes 3 (some .int) 1 := ⟨mw269, mw270, mw5, mw271, rfl, by decide, by decide, by decide +kernel⟩
theorem vmX9_readsItem : VM RX9 yX9_readsItem cX9_readsItem 4 none 1 := ⟨mw273, mw274, mw5, mw275, rfl, by decide, by decide, by decide +kernel⟩
theorem vmX9_number : VM RX9 yX9_number cX9_number 3 (some .int) 2 := ⟨mw277, mw278, mw5, mw279, rfl, by decide, by decide, by decide +kernel⟩
theorem vmX9_settles : VM RX9 yX9_settles cX9_settles 2 none 0 := ⟨mw281, mw282, mw5, mw283, rfl, by decide, by decide, by decide +kernel⟩
theorem vmX8_person : VM RX8 yX8_person cX8_person 3 (some .int) 2 := ⟨mw288, mw289, mw2, mw290, rfl, by decide, by decide, by decide +kernel⟩
theorem vmX1_hasPerson : VM RX1 yX1_hasPerson cX1_hasPerson 2 (some .boolean) 1 := ⟨mw298, mw299, mw22, mw300, rfl, by decide, by decide, by decide +kernel⟩
theorem smX8_bit : SM yX8_bit cX8_bit 2 (some .int) 2 := ⟨mw302, mw2, mw303, by decide, by decide, by decide +kernel⟩
theorem vmX1_limping : VM RX1 yX1_limping cX1_limping 1 (some .int) 0 := ⟨mw305, mw306, mw22, mw307, rfl, by decide, by decide, by decide +kernel⟩
theorem vmX1_limpingIf : VM RX1 yX1_limpingIf cX1_limpingIf 6 (some .int) 2 := ⟨mw309, mw310, mw22, mw311, rfl, by decide, by decide, by decide +kernel⟩
theorem vmX1_bearers : VM RX1 yX1_bearers cX1_bearers 4 (some .int) 1 := ⟨mw313, mw314, mw22, mw315, rfl, by decide, by decide, by decide +kernel⟩
theorem vmX1_fame : VM RX1 yX1_fame cX1_fame 4 (some .int) 1 := ⟨mw317, mw318, mw22, mw319, rfl, by decide, by decide, by decide +kernel⟩
theorem vmX1_tax : VM RX1 yX1_tax cX1_tax 2 (some .int) 1 := ⟨mw321, mw322, mw22, mw323, rfl, by decide, by decide, by decide +kernel⟩
theorem vmX1_taxIfNamed : VM RX1 yX1_taxIfNamed cX1_taxIfNamed 5 (some .int) 2 := ⟨mw325, mw326, mw22, mw327, rfl, by decide, by decide, by decide +kernel⟩
theorem smJ6_bitCount_0f7a4 : SM yJ6_bitCount_0f7a4 cJ6_bitCount_0f7a4 1 (some .int) 1 := ⟨mw333, mw334, mw335, by decide, by decide, by decide +kernel⟩
theorem vmX1_wealthOf : VM RX1 yX1_wealthOf cX1_wealthOf 4 (some .int) 1 := ⟨mw340, mw341, mw22, mw342, rfl, by decide, by decide, by decide +kernel⟩
theorem vmX9_person : VM RX9 yX9_person cX9_person 3 (some .int) 2 := ⟨mw344, mw345, mw5, mw346, rfl, by decide, by decide, by decide +kernel⟩
theorem vmX9_isPerson : VM RX9 yX9_isPerson cX9_isPerson 2 (some .boolean) 1 := ⟨mw348, mw349, mw5, mw350, rfl, by decide, by decide, by decide +kernel⟩
theorem vmX9_limps : VM RX9 yX9_limps cX9_limps 4 (some .boolean) 2 := ⟨mw352, mw353, mw5, mw354, rfl, by decide, by decide, by decide +kernel⟩
theorem smX9_isLaw : SM yX9_isLaw cX9_isLaw 2 (some .boolean) 2 := ⟨mw356, mw5, mw357, by decide, by decide, by decide +kernel⟩
theorem vmX9_peopleOf : VM RX9 yX9_peopleOf cX9_peopleOf 5 (some .int) 2 := ⟨mw359, mw360, mw5, mw361, rfl, by decide, by decide, by decide +kernel⟩
theorem vmX9_fame : VM RX9 yX9_fame cX9_fame 3 (some .int) 2 := ⟨mw363, mw364, mw5, mw365, rfl, by decide, by decide, by decide +kernel⟩
theorem vmX9_sumOf : VM RX9 yX9_sumOf cX9_sumOf 6 (some .int) 3 := ⟨mw367, mw368, mw5, mw369, rfl, by decide, by decide, by decide +kernel⟩
theorem vmX9_tax : VM RX9 yX9_tax cX9_tax 4 (some .int) 2 := ⟨mw371, mw372, mw5, mw373, rfl, by decide, by decide, by decide +kernel⟩
theorem smX9_ones : SM yX9_ones cX9_ones 3 (some .int) 1 := ⟨mw375, mw5, mw376, by decide, by decide, by decide +kernel⟩
theorem vmX8_quarrels : VM RX8 yX8_quarrels cX8_quarrels 2 (some .int) 1 := ⟨mw378, mw379, mw2, mw380, rfl, by decide, by decide, by decide +kernel⟩
theorem vmX9_quarrels : VM RX9 yX9_quarrels cX9_quarrels 2 (some .int) 1 := ⟨mw383, mw384, mw5, mw385, rfl, by decide, by decide, by decide +kernel⟩
theorem vmX8_name : VM RX8 yX8_name cX8_name 5 (some .int) 2 := ⟨mw387, mw388, mw2, mw389, rfl, by decide, by decide, by decide +kernel⟩
theorem vmX1_hasName : VM RX1 yX1_hasName cX1_hasName 2 (some .boolean) 1 := ⟨mw392, mw393, mw22, mw394, rfl, by decide, by decide, by decide +kernel⟩
theorem smX8_inLeastTerms : SM yX8_inLeastTerms cX8_inLeastTerms 3 (some .int) 2 := ⟨mw399, mw2, mw400, by decide, by decide, by decide +kernel⟩
theorem smX8_commonDivisor : SM yX8_commonDivisor cX8_commonDivisor 6 (some .int) 2 := ⟨mw402, mw2, mw403, by decide, by decide, by decide +kernel⟩
theorem vmX9_name : VM RX9 yX9_name cX9_name 4 (some .int) 2 := ⟨mw405, mw406, mw5, mw407, rfl, by decide, by decide, by decide +kernel⟩
theorem vmX9_isName : VM RX9 yX9_isName cX9_isName 2 (some .boolean) 1 := ⟨mw409, mw410, mw5, mw411, rfl, by decide, by decide, by decide +kernel⟩
theorem smX9_part : SM yX9_part cX9_part 4 (some .int) 3 := ⟨mw413, mw5, mw414, by decide, by decide, by decide +kernel⟩
theorem smX9_gcd : SM yX9_gcd cX9_gcd 5 (some .int) 2 := ⟨mw416, mw5, mw417, by decide, by decide, by decide +kernel⟩
theorem vmX8_bill : VM RX8 yX8_bill cX8_bill 4 (some .int) 2 := ⟨mw419, mw420, mw2, mw421, rfl, by decide, by decide, by decide +kernel⟩
theorem vmX1_yes : VM RX1 yX1_yes cX1_yes 4 (some .int) 3 := ⟨mw424, mw425, mw22, mw426, rfl, by decide, by decide, by decide +kernel⟩
theorem vmX1_sayers : VM RX1 yX1_sayers cX1_sayers 5 (some .int) 2 := ⟨mw428, mw429, mw22, mw430, rfl, by decide, by decide, by decide +kernel⟩
theorem vmX1_votes : VM RX1 yX1_votes cX1_votes 11 (some .int) 4 := ⟨mw432, mw433, mw22, mw434, rfl, by decide, by decide, by decide +kernel⟩
theorem vmX1_no : VM RX1 yX1_no cX1_no 4 (some .int) 3 := ⟨mw436, mw437, mw22, mw438, rfl, by decide, by decide, by decide +kernel⟩
theorem vmX1_passes : VM RX1 yX1_passes cX1_passes 4 (some .boolean) 3 := ⟨mw440, mw441, mw22, mw442, rfl, by decide, by decide, by decide +kernel⟩
theorem vmX1_sway : VM RX1 yX1_sway cX1_sway 5 (some .int) 1 := ⟨mw446, mw447, mw22, mw448, rfl, by decide, by decide, by decide +kernel⟩
theorem vmX9_bill : VM RX9 yX9_bill cX9_bill 3 (some .int) 2 := ⟨mw451, mw452, mw5, mw453, rfl, by decide, by decide, by decide +kernel⟩
theorem vmX9_everybody : VM RX9 yX9_everybody cX9_everybody 1 (some .int) 0 := ⟨mw455, mw456, mw5, mw457, rfl, by decide, by decide, by decide +kernel⟩
theorem vmX9_voices : VM RX9 yX9_voices cX9_voices 7 (some .int) 4 := ⟨mw459, mw460, mw5, mw461, rfl, by decide, by decide, by decide +kernel⟩
theorem vmX9_leadOf : VM RX9 yX9_leadOf cX9_leadOf 5 (some .int) 2 := ⟨mw463, mw464, mw5, mw465, rfl, by decide, by decide, by decide +kernel⟩
theorem vmX9_passes : VM RX9 yX9_passes cX9_passes 4 (some .boolean) 3 := ⟨mw467, mw468, mw5, mw469, rfl, by decide, by decide, by decide +kernel⟩
theorem vmX9_swayOf : VM RX9 yX9_swayOf cX9_swayOf 4 (some .int) 1 := ⟨mw471, mw472, mw5, mw473, rfl, by decide, by decide, by decide +kernel⟩
theorem vmX8_now : VM RX8 yX8_now cX8_now 2 (some .int) 1 := ⟨mw475, mw476, mw2, mw477, rfl, by decide, by decide, by decide +kernel⟩
theorem vmX1_badOnes : VM RX1 yX1_badOnes cX1_badOnes 4 (some .int) 0 := ⟨mw481, mw482, mw22, mw483, rfl, by decide, by decide, by decide +kernel⟩
theorem vmX1_quarrel : VM RX1 yX1_quarrel cX1_quarrel 3 (some .boolean) 2 := ⟨mw485, mw486, mw22, mw487, rfl, by decide, by decide, by decide +kernel⟩
theorem vmX1_alone : VM RX1 yX1_alone cX1_alone 4 (some .int) 0 := ⟨mw489, mw490, mw22, mw491, rfl, by decide, by decide, by decide +kernel⟩
theorem vmX1_restless : VM RX1 yX1_restless cX1_restless 3 (some .int) 0 := ⟨mw493, mw494, mw22, mw495, rfl, by decide, by decide, by decide +kernel⟩
theorem vmX1_cheapestName : VM RX1 yX1_cheapestName cX1_cheapestName 4 (some .int) 1 := ⟨mw497, mw498, mw22, mw499, rfl, by decide, by decide, by decide +kernel⟩
theorem vmX9_now : VM RX9 yX9_now cX9_now 2 (some .int) 1 := ⟨mw502, mw503, mw5, mw504, rfl, by decide, by decide, by decide +kernel⟩
theorem vmX9_limping : VM RX9 yX9_limping cX9_limping 3 (some .int) 0 := ⟨mw506, mw507, mw5, mw508, rfl, by decide, by decide, by decide +kernel⟩
theorem vmX9_badOnes : VM RX9 yX9_badOnes cX9_badOnes 3 (some .int) 0 := ⟨mw510, mw511, mw5, mw512, rfl, by decide, by decide, by decide +kernel⟩
theorem vmX9_alone : VM RX9 yX9_alone cX9_alone 3 (some .int) 0 := ⟨mw514, mw515, mw5, mw516, rfl, by decide, by decide, by decide +kernel⟩
theorem vmX9_restless : VM RX9 yX9_restless cX9_restless 3 (some .int) 0 := ⟨mw518, mw519, mw5, mw520, rfl, by decide, by decide, by decide +kernel⟩
theorem vmX9_cheapestOf : VM RX9 yX9_cheapestOf cX9_cheapestOf 4 (some .int) 1 := ⟨mw522, mw523, mw5, mw524, rfl, by decide, by decide, by decide +kernel⟩
theorem vmX9_taxBy : VM RX9 yX9_taxBy cX9_taxBy 3 (some .int) 2 := ⟨mw526, mw527, mw5, mw528, rfl, by decide, by decide, by decide +kernel⟩
theorem vmX9_asNow : VM RX9 yX9_asNow cX9_asNow 2 none 0 := ⟨mw530, mw531, mw5, mw532, rfl, by decide, by decide, by decide +kernel⟩
theorem vmX8_hurts : VM RX8 yX8_hurts cX8_hurts 4 (some .int) 2 := ⟨mw534, mw535, mw2, mw536, rfl, by decide, by decide, by decide +kernel⟩
theorem vmX3_remember : VM RX3 yX3_remember cX3_remember 2 none 1 := ⟨mw538, mw539, mw26, mw540, rfl, by decide, by decide, by decide +kernel⟩
theorem vmX9_hurts : VM RX9 yX9_hurts cX9_hurts 4 (some .int) 2 := ⟨mw546, mw547, mw5, mw548, rfl, by decide, by decide, by decide +kernel⟩
theorem vmX9_notes : VM RX9 yX9_notes cX9_notes 2 none 0 := ⟨mw550, mw551, mw5, mw552, rfl, by decide, by decide, by decide +kernel⟩
theorem vmX8_deeds : VM RX8 yX8_deeds cX8_deeds 2 (some .int) 1 := ⟨mw554, mw555, mw2, mw556, rfl, by decide, by decide, by decide +kernel⟩
theorem vmX9_deeds : VM RX9 yX9_deeds cX9_deeds 2 (some .int) 1 := ⟨mw558, mw559, mw5, mw560, rfl, by decide, by decide, by decide +kernel⟩
theorem vmX8_earns : VM RX8 yX8_earns cX8_earns 3 (some .int) 2 := ⟨mw562, mw563, mw2, mw564, rfl, by decide, by decide, by decide +kernel⟩
theorem vmX9_earns : VM RX9 yX9_earns cX9_earns 4 (some .int) 2 := ⟨mw567, mw568, mw5, mw569, rfl, by decide, by decide, by decide +kernel⟩
theorem vmX8_names : VM RX8 yX8_names cX8_names 4 (some .int) 2 := ⟨mw571, mw572, mw2, mw573, rfl, by decide, by decide, by decide +kernel⟩
theorem vmX9_names : VM RX9 yX9_names cX9_names 4 (some .int) 2 := ⟨mw575, mw576, mw5, mw577, rfl, by decide, by decide, by decide +kernel⟩
theorem vmX8_laws : VM RX8 yX8_laws cX8_laws 3 (some .int) 1 := ⟨mw579, mw580, mw2, mw581, rfl, by decide, by decide, by decide +kernel⟩
theorem vmX9_laws : VM RX9 yX9_laws cX9_laws 3 (some .int) 1 := ⟨mw583, mw584, mw5, mw585, rfl, by decide, by decide, by decide +kernel⟩
theorem vmX8_year : VM RX8 yX8_year cX8_year 1 (some .int) 0 := ⟨mw587, mw588, mw2, mw589, rfl, by decide, by decide, by decide +kernel⟩
theorem vmX1_payTax : VM RX1 yX1_payTax cX1_payTax 3 (some .int) 0 := ⟨mw591, mw592, mw22, mw593, rfl, by decide, by decide, by decide +kernel⟩
theorem vmX9_year : VM RX9 yX9_year cX9_year 3 (some .int) 0 := ⟨mw597, mw598, mw5, mw599, rfl, by decide, by decide, by decide +kernel⟩
theorem vmX8_undo : VM RX8 yX8_undo cX8_undo 1 (some .int) 0 := ⟨mw602, mw603, mw2, mw604, rfl, by decide, by decide, by decide +kernel⟩
theorem vmX3_recall : VM RX3 yX3_recall cX3_recall 2 none 1 := ⟨mw606, mw607, mw26, mw608, rfl, by decide, by decide, by decide +kernel⟩
theorem vmX9_undo : VM RX9 yX9_undo cX9_undo 2 (some .int) 0 := ⟨mw610, mw611, mw5, mw612, rfl, by decide, by decide, by decide +kernel⟩
theorem vmX8_apart : VM RX8 yX8_apart cX8_apart 2 (some .int) 1 := ⟨mw614, mw615, mw2, mw616, rfl, by decide, by decide, by decide +kernel⟩
theorem vmX5_search : VM RX5 yX5_search cX5_search 2 none 1 := ⟨mw620, mw621, mw35, mw622, rfl, by decide, by decide, by decide +kernel⟩
theorem vmX5_nameFrom : VM RX5 yX5_nameFrom cX5_nameFrom 5 none 3 := ⟨mw624, mw625, mw35, mw626, rfl, by decide, by decide, by decide +kernel⟩
theorem vmX5_isFree : VM RX5 yX5_isFree cX5_isFree 5 (some .boolean) 3 := ⟨mw633, mw634, mw35, mw635, rfl, by decide, by decide, by decide +kernel⟩
theorem vmX5_found : VM RX5 yX5_found cX5_found 1 (some .boolean) 0 := ⟨mw638, mw639, mw35, mw640, rfl, by decide, by decide, by decide +kernel⟩
theorem vmX9_apart : VM RX9 yX9_apart cX9_apart 7 (some .int) 1 := ⟨mw642, mw643, mw5, mw644, rfl, by decide, by decide, by decide +kernel⟩
theorem vmX9_renamedBy : VM RX9 yX9_renamedBy cX9_renamedBy 6 (some .int) 1 := ⟨mw647, mw648, mw5, mw649, rfl, by decide, by decide, by decide +kernel⟩
theorem vmX8_cheapest : VM RX8 yX8_cheapest cX8_cheapest 2 (some .int) 1 := ⟨mw651, mw652, mw2, mw653, rfl, by decide, by decide, by decide +kernel⟩
theorem vmX9_cheapest : VM RX9 yX9_cheapest cX9_cheapest 2 (some .int) 1 := ⟨mw656, mw657, mw5, mw658, rfl, by decide, by decide, by decide +kernel⟩
theorem vmX8_tells : VM RX8 yX8_tells cX8_tells 3 (some .int) 2 := ⟨mw660, mw661, mw2, mw662, rfl, by decide, by decide, by decide +kernel⟩
theorem vmX0_add : VM RX0 yX0_add cX0_add 3 (some .int) 2 := ⟨mw664, mw665, mw30, mw666, rfl, by decide, by decide, by decide +kernel⟩
theorem vmX9_tells : VM RX9 yX9_tells cX9_tells 3 (some .int) 2 := ⟨mw668, mw669, mw5, mw670, rfl, by decide, by decide, by decide +kernel⟩
theorem vmX8_record : VM RX8 yX8_record cX8_record 3 (some .int) 2 := ⟨mw672, mw673, mw2, mw674, rfl, by decide, by decide, by decide +kernel⟩
theorem vmX9_record : VM RX9 yX9_record cX9_record 3 (some .int) 2 := ⟨mw676, mw677, mw5, mw678, rfl, by decide, by decide, by decide +kernel⟩
theorem vmX8_forget : VM RX8 yX8_forget cX8_forget 2 (some .int) 0 := ⟨mw680, mw681, mw2, mw682, rfl, by decide, by decide, by decide +kernel⟩
theorem vmX9_forget : VM RX9 yX9_forget cX9_forget 2 (some .int) 0 := ⟨mw684, mw685, mw5, mw686, rfl, by decide, by decide, by decide +kernel⟩
theorem vmX8_who : VM RX8 yX8_who cX8_who 4 (some .int) 0 := ⟨mw688, mw689, mw2, mw690, rfl, by decide, by decide, by decide +kernel⟩
theorem vmX0_agree : VM RX0 yX0_agree cX0_agree 3 (some .boolean) 1 := ⟨mw694, mw695, mw30, mw696, rfl, by decide, by decide, by decide +kernel⟩
theorem vmX9_who : VM RX9 yX9_who cX9_who 3 (some .int) 0 := ⟨mw698, mw699, mw5, mw700, rfl, by decide, by decide, by decide +kernel⟩
theorem vmX9_isAsTold : VM RX9 yX9_isAsTold cX9_isAsTold 3 (some .boolean) 0 := ⟨mw702, mw703, mw5, mw704, rfl, by decide, by decide, by decide +kernel⟩
theorem vmX8_which : VM RX8 yX8_which cX8_which 6 (some .int) 1 := ⟨mw706, mw707, mw2, mw708, rfl, by decide, by decide, by decide +kernel⟩
theorem vmX8_allIsSo : VM RX8 yX8_allIsSo cX8_allIsSo 2 (some .boolean) 1 := ⟨mw710, mw711, mw2, mw712, rfl, by decide, by decide, by decide +kernel⟩
theorem vmX1_passing : VM RX1 yX1_passing cX1_passing 4 (some .int) 1 := ⟨mw714, mw715, mw22, mw716, rfl, by decide, by decide, by decide +kernel⟩
theorem vmX9_which : VM RX9 yX9_which cX9_which 6 (some .int) 1 := ⟨mw718, mw719, mw5, mw720, rfl, by decide, by decide, by decide +kernel⟩
theorem vmX9_isAsRecorded : VM RX9 yX9_isAsRecorded cX9_isAsRecorded 3 (some .boolean) 0 := ⟨mw722, mw723, mw5, mw724, rfl, by decide, by decide, by decide +kernel⟩
theorem vmX8_married : VM RX8 yX8_married cX8_married 2 (some .int) 1 := ⟨mw726, mw727, mw2, mw728, rfl, by decide, by decide, by decide +kernel⟩
theorem vmX7_search : VM RX7 yX7_search cX7_search 3 none 1 := ⟨mw732, mw733, mw39, mw734, rfl, by decide, by decide, by decide +kernel⟩
theorem vmX7_pairFrom : VM RX7 yX7_pairFrom cX7_pairFrom 5 none 3 := ⟨mw736, mw737, mw39, mw738, rfl, by decide, by decide, by decide +kernel⟩
theorem smX7_mayMarry : SM yX7_mayMarry cX7_mayMarry 3 (some .boolean) 3 := ⟨mw742, mw39, mw743, by decide, by decide, by decide +kernel⟩
theorem vmX9_married : VM RX9 yX9_married cX9_married 8 (some .int) 1 := ⟨mw748, mw749, mw5, mw750, rfl, by decide, by decide, by decide +kernel⟩
theorem vmX9_pairs : VM RX9 yX9_pairs cX9_pairs 6 none 0 := ⟨mw752, mw753, mw5, mw754, rfl, by decide, by decide, by decide +kernel⟩
theorem vmX9_mayMarry : VM RX9 yX9_mayMarry cX9_mayMarry 3 (some .boolean) 2 := ⟨mw756, mw757, mw5, mw758, rfl, by decide, by decide, by decide +kernel⟩
theorem vmX8_odds : VM RX8 yX8_odds cX8_odds 8 (some .int) 4 := ⟨mw760, mw761, mw2, mw762, rfl, by decide, by decide, by decide +kernel⟩
theorem vmX8_christenings : VM RX8 yX8_christenings cX8_christenings 5 (some .int) 2 := ⟨mw765, mw766, mw2, mw767, rfl, by decide, by decide, by decide +kernel⟩
theorem smX8_choices : SM yX8_choices cX8_choices 4 (some .int) 2 := ⟨mw769, mw2, mw770, by decide, by decide, by decide +kernel⟩
theorem smX8_power : SM yX8_power cX8_power 4 (some .int) 2 := ⟨mw772, mw2, mw773, by decide, by decide, by decide +kernel⟩
theorem vmX9_odds : VM RX9 yX9_odds cX9_odds 7 (some .int) 4 := ⟨mw775, mw776, mw5, mw777, rfl, by decide, by decide, by decide +kernel⟩
theorem smX9_power : SM yX9_power cX9_power 4 (some .int) 2 := ⟨mw779, mw5, mw780, by decide, by decide, by decide +kernel⟩
theorem vmX8_rate : VM RX8 yX8_rate cX8_rate 3 (some .int) 2 := ⟨mw782, mw783, mw2, mw784, rfl, by decide, by decide, by decide +kernel⟩
theorem vmX8_rateAs : VM RX8 yX8_rateAs cX8_rateAs 3 (some .int) 2 := ⟨mw787, mw788, mw2, mw789, rfl, by decide, by decide, by decide +kernel⟩
theorem vmX9_rate : VM RX9 yX9_rate cX9_rate 6 (some .int) 2 := ⟨mw792, mw793, mw5, mw794, rfl, by decide, by decide, by decide +kernel⟩
theorem vmX8_keep : VM RX8 yX8_keep cX8_keep 2 (some .int) 1 := ⟨mw803, mw804, mw2, mw805, rfl, by decide, by decide, by decide +kernel⟩
theorem vmX9_keep : VM RX9 yX9_keep cX9_keep 3 (some .int) 1 := ⟨mw808, mw809, mw5, mw810, rfl, by decide, by decide, by decide +kernel⟩
theorem vmX8_back : VM RX8 yX8_back cX8_back 2 (some .int) 1 := ⟨mw812, mw813, mw2, mw814, rfl, by decide, by decide, by decide +kernel⟩
theorem vmX9_back : VM RX9 yX9_back cX9_back 3 (some .int) 1 := ⟨mw816, mw817, mw5, mw818, rfl, by decide, by decide, by decide +kernel⟩
theorem vmX8_count : VM RX8 yX8_count cX8_count 2 (some .int) 1 := ⟨mw820, mw821, mw2, mw822, rfl, by decide, by decide, by decide +kernel⟩
theorem vmX9_count : VM RX9 yX9_count cX9_count 2 (some .int) 1 := ⟨mw824, mw825, mw5, mw826, rfl, by decide, by decide, by decide +kernel⟩
theorem vmX8_trace : VM RX8 yX8_trace cX8_trace 1 (some .long) 0 := ⟨mw828, mw829, mw2, mw830, rfl, by decide, by decide, by decide +kernel⟩
theorem vmX9_trace : VM RX9 yX9_trace cX9_trace 1 (some .long) 0 := ⟨mw832, mw833, mw5, mw834, rfl, by decide, by decide, by decide +kernel⟩

abbrev NV : Type := Nat → Nat → Int32
/-- one row of a value, put anew -/
def upA (v : NV) (c : Nat) (f : Nat → Int32) : NV := fun c' => bif Nat.beq c' c then f else v c'
abbrev tyG (cI cZ cN : ClassId) : List (ClassId × FieldType) := [(cI, .int), (cZ, .boolean), (cN, .object "OneJohn$Now")]
theorem inc_n (i k : Nat) : nI i + Int32.ofInt (k : Int) = nI (i + k) := by
  rw [show Int32.ofInt (k : Int) = nI k from (Int32.ofInt_eq_ofNat (n := k))]; exact nI_add i k
def ushr (x y : Int32) : Int32 := (x.toUInt32 >>> (y.toUInt32 &&& Int32.toUInt32 31)).toInt32
theorem sw_lt {x : Int32} (h : x < 0) : x.toInt < 0 := Int32.lt_iff_toInt_lt.mp h
theorem sw_ge {x : Int32} {n : Nat} (hn : n < 2 ^ 31) (h : nI n ≤ x) : (n : Int) - 1 < x.toInt := by
  have := Int32.le_iff_toInt_le.mp h
  rw [nI_toInt hn] at this
  omega
theorem r_sw {p : Program} {l : Launch} {e : Env} {R : Room} {s : State} {m : MethodId} {args : Array Value} {below : List Frame} {meth : Method} {c : Code} {H : Heap} {locs : List Loc} {cells slots : Nat} {Q : State → Prop} {pc : Nat} {ls : Array Slot} {rest : List Value} {x : Int32} {k : Nat} (h : x = nI k) (kk : W p l e R s m args below meth c H locs cells slots Q (F0 m pc ls (.int (nI k) :: rest))) : W p l e R s m args below meth c H locs cells slots Q (F0 m pc ls (.int x :: rest)) := h ▸ kk
/-- a Now: names, wealth, deeds; hurt, laws, chest, years -/
abbrev pNow (cI : ClassId) (a : Nat → Nat) (V : NV) : va_W := [(a 0, .inr (2, [.ref (a 1), .ref (a 2), .ref (a 3), .int (V 3 0), .int (V 3 1), .int (V 3 2), .int (V 3 3)])), (a 1, .inl (cI, 7, .inl (V 0))), (a 2, .inl (cI, 7, .inl (V 1))), (a 3, .inl (cI, 7, .inl (V 2)))]
/-- a Land: favours, foes, due; nameCount, people; its Now -/
abbrev pLand (cI : ClassId) (a : Nat → Nat) (L V : NV) : va_W := [(a 0, .inr (1, [.ref (a 1), .ref (a 2), .ref (a 3), .ref (a 4), .int (L 3 0), .int (L 3 1)])), (a 1, .inl (cI, 7, .inl (L 0))), (a 2, .inl (cI, 7, .inl (L 1))), (a 3, .inl (cI, 7, .inl (L 2))), (a 4, .inr (2, [.ref (a 5), .ref (a 6), .ref (a 7), .int (V 3 0), .int (V 3 1), .int (V 3 2), .int (V 3 3)])), (a 5, .inl (cI, 7, .inl (V 0))), (a 6, .inl (cI, 7, .inl (V 1))), (a 7, .inl (cI, 7, .inl (V 2)))]
/-- a set's bit -/
def bitI (set place : Int32) : Int32 := (set >>> (place &&& 31)) &&& 1
def inI (v lo hi : Int32) : Int32 := if v < lo then 0 else if hi < v then 0 else 1
theorem inI_nar (v lo hi : Int32) : narrow .boolean (.int (inI v lo hi)) = .int (inI v lo hi) := by unfold inI; split; rfl; split <;> rfl
theorem nar_if {c : Prop} [Decidable c] : narrow .boolean (.int (if c then (1 : Int32) else 0)) = .int (if c then (1 : Int32) else 0) := by split <;> rfl
theorem r_aald {p : Program} {l : Launch} {e : Env} {R : Room} {s : State} {m : MethodId} {args : Array Value} {below : List Frame} {meth : Method} {c : Code} {H : Heap} {locs : List Loc} {cells slots : Nat} {Q : State → Prop} {cc : ByteArray} {nL pc : Nat} {ls : Array Slot} {rest : List Value} {D : va_G} {A : Nat → Prop} {a : Nat} {tys : List (ClassId × FieldType)} {ws : va_W} {own : String} (S : CallFix p m c cc nL s args BW own) (hW : AtC D tys A ws s H locs) (q0 t0 : Nat) {cA : ClassId} {C : String} {n : Nat} {f : Nat → Option Nat} (ha : ws[q0]? = some (a, .inl (cA, n, .inr (.inr (.inr (.inr f)))))) (ht : tys[t0]? = some (cA, .object C)) {i : Int32} {j : Nat} (hi : i = nI j) (hj : j < n) (hn : n < 2 ^ 31) {v : Nat} (hv : f j = some v) (hdg : decode cc pc = .ok (.aaload, 1))
    (kk : W p l e R s m args below meth c H locs cells slots Q (F0 m (pc + 1) ls (.ref v :: rest))) : W p l e R s m args below meth c H locs cells slots Q (F0 m pc ls (.int i :: .ref a :: rest)) := by
  subst hi
  obtain ⟨hN, hK, hP, hD, hS, hA⟩ := hW
  refine va_aldq S.1 S.2.1 hK hP q0 t0 ha ht (vp_in_nI hj hn) hdg ?_
  rw [nI_clamp (by omega), hv]
  exact kk
theorem AtC.cong {D : va_G} {tys : List (ClassId × FieldType)} {A : Nat → Prop} {ws ws' : va_W} {s : State} {H : Heap} {locs : List Loc} (h : AtC D tys A ws s H locs) (e : ws' = ws) : AtC D tys A ws' s H locs := e ▸ h
/-- rows that are as they were -/
def sameAt (ws' ws : va_W) : List Nat → Prop
  | [] => True
  | i :: is => ws'[i]? = ws[i]? ∧ sameAt ws' ws is
theorem sameAt_mem {ws' ws : va_W} : ∀ {is : List Nat}, sameAt ws' ws is → ∀ i ∈ is, ws'[i]? = ws[i]?
  | [], _, _, h => absurd h List.not_mem_nil
  | _ :: _, h, i, hi => (List.mem_cons.mp hi).elim (fun e => e ▸ h.1) (fun h2 => sameAt_mem h.2 i h2)
theorem putW_len : ∀ (is : List Nat) (w1 ws : va_W), (putW ws is w1).length = ws.length := by
  intro is
  induction is with
  | nil => intro w1 ws; simp [putW]
  | cons i is ih =>
    intro w1 ws
    cases w1 with
    | nil => simp [putW]
    | cons e es => rw [putW, ih, List.length_set]
theorem putW_eq {ws ws' w1 : va_W} {isC isR : List Nat} {n : Nat} (hn : isC.Nodup) (hl : isC.length = w1.length) (hC : isC.map (fun i => ws'[i]?) = w1.map some) (hR : sameAt ws' ws isR) (hcov : ∀ k, k < n → k ∈ isC ∨ k ∈ isR) (h1 : ws.length = n) (h2 : ws'.length = n) : ws' = putW ws isC w1 := by
  apply List.ext_getElem?
  intro k
  by_cases hk : k < n
  · have hk2 : k < (putW ws isC w1).length := by rw [putW_len, h1]; exact hk
    rw [List.getElem?_eq_getElem hk2]
    rcases putW_get isC w1 ws k _ hn hl (List.getElem?_eq_getElem hk2) with ⟨j, g1, g2⟩ | ⟨g1, g2⟩
    · have g3 : (isC.map (fun i => ws'[i]?))[j]? = some (ws'[k]?) := by rw [List.getElem?_map, g1]; rfl
      rw [hC, List.getElem?_map, g2] at g3
      exact (Option.some.inj g3).symm
    · have g3 := (hcov k hk).resolve_left g1
      rw [sameAt_mem hR k g3, g2]
  · rw [List.getElem?_eq_none (by omega), List.getElem?_eq_none (by rw [putW_len]; omega)]
theorem AtC.re {D : va_G} {tys : List (ClassId × FieldType)} {A : Nat → Prop} {ws ws' w1 : va_W} {isC : List Nat} {s : State} {H : Heap} {locs : List Loc} (h : AtC D tys A (putW ws isC w1) s H locs) (isR : List Nat) (n : Nat) (hn : isC.Nodup) (hl : isC.length = w1.length) (hC : isC.map (fun i => ws'[i]?) = w1.map some) (hR : sameAt ws' ws isR) (hcov : ∀ k, k < n → k ∈ isC ∨ k ∈ isR) (h1 : ws.length = n) (h2 : ws'.length = n) : AtC D tys A ws' s H locs := h.cong (putW_eq hn hl hC hR hcov h1 h2)
def upR (R : Nat → NV) (k : Nat) (v : NV) : Nat → NV := fun j => bif Nat.beq j k then v else R j
/-- Past: next, size; the rows -/
abbrev pPast (cI cN : ClassId) (a : Nat → Nat) (S : NV) (R : Nat → NV) : va_W := [(a 0, .inr (3, [.ref (a 1), .int (S 0 0), .int (S 0 1)])), (a 1, .inl (cN, 10, .inr (.inr (.inr (.inr (fun i => some (a (4 * i + 2)))))))), (a 2, .inr (2, [.ref (a 3), .ref (a 4), .ref (a 5), .int (R 0 3 0), .int (R 0 3 1), .int (R 0 3 2), .int (R 0 3 3)])), (a 3, .inl (cI, 7, .inl (R 0 0))), (a 4, .inl (cI, 7, .inl (R 0 1))), (a 5, .inl (cI, 7, .inl (R 0 2))), (a 6, .inr (2, [.ref (a 7), .ref (a 8), .ref (a 9), .int (R 1 3 0), .int (R 1 3 1), .int (R 1 3 2), .int (R 1 3 3)])), (a 7, .inl (cI, 7, .inl (R 1 0))), (a 8, .inl (cI, 7, .inl (R 1 1))), (a 9, .inl (cI, 7, .inl (R 1 2))), (a 10, .inr (2, [.ref (a 11), .ref (a 12), .ref (a 13), .int (R 2 3 0), .int (R 2 3 1), .int (R 2 3 2), .int (R 2 3 3)])), (a 11, .inl (cI, 7, .inl (R 2 0))), (a 12, .inl (cI, 7, .inl (R 2 1))), (a 13, .inl (cI, 7, .inl (R 2 2))), (a 14, .inr (2, [.ref (a 15), .ref (a 16), .ref (a 17), .int (R 3 3 0), .int (R 3 3 1), .int (R 3 3 2), .int (R 3 3 3)])), (a 15, .inl (cI, 7, .inl (R 3 0))), (a 16, .inl (cI, 7, .inl (R 3 1))), (a 17, .inl (cI, 7, .inl (R 3 2))), (a 18, .inr (2, [.ref (a 19), .ref (a 20), .ref (a 21), .int (R 4 3 0), .int (R 4 3 1), .int (R 4 3 2), .int (R 4 3 3)])), (a 19, .inl (cI, 7, .inl (R 4 0))), (a 20, .inl (cI, 7, .inl (R 4 1))), (a 21, .inl (cI, 7, .inl (R 4 2))), (a 22, .inr (2, [.ref (a 23), .ref (a 24), .ref (a 25), .int (R 5 3 0), .int (R 5 3 1), .int (R 5 3 2), .int (R 5 3 3)])), (a 23, .inl (cI, 7, .inl (R 5 0))), (a 24, .inl (cI, 7, .inl (R 5 1))), (a 25, .inl (cI, 7, .inl (R 5 2))), (a 26, .inr (2, [.ref (a 27), .ref (a 28), .ref (a 29), .int (R 6 3 0), .int (R 6 3 1), .int (R 6 3 2), .int (R 6 3 3)])), (a 27, .inl (cI, 7, .inl (R 6 0))), (a 28, .inl (cI, 7, .inl (R 6 1))), (a 29, .inl (cI, 7, .inl (R 6 2))), (a 30, .inr (2, [.ref (a 31), .ref (a 32), .ref (a 33), .int (R 7 3 0), .int (R 7 3 1), .int (R 7 3 2), .int (R 7 3 3)])), (a 31, .inl (cI, 7, .inl (R 7 0))), (a 32, .inl (cI, 7, .inl (R 7 1))), (a 33, .inl (cI, 7, .inl (R 7 2))), (a 34, .inr (2, [.ref (a 35), .ref (a 36), .ref (a 37), .int (R 8 3 0), .int (R 8 3 1), .int (R 8 3 2), .int (R 8 3 3)])), (a 35, .inl (cI, 7, .inl (R 8 0))), (a 36, .inl (cI, 7, .inl (R 8 1))), (a 37, .inl (cI, 7, .inl (R 8 2))), (a 38, .inr (2, [.ref (a 39), .ref (a 40), .ref (a 41), .int (R 9 3 0), .int (R 9 3 1), .int (R 9 3 2), .int (R 9 3 3)])), (a 39, .inl (cI, 7, .inl (R 9 0))), (a 40, .inl (cI, 7, .inl (R 9 1))), (a 41, .inl (cI, 7, .inl (R 9 2)))]
/-- Claims: subjects, answers; size -/
abbrev pClaims (cI : ClassId) (a : Nat → Nat) (S : NV) : va_W := [(a 0, .inr (0, [.ref (a 1), .ref (a 2), .int (S 2 0)])), (a 1, .inl (cI, 6, .inl (S 0))), (a 2, .inl (cI, 6, .inl (S 1)))]
/-- Renaming, Wedding: way, best; fewest (most) -/
abbrev pRen (cI : ClassId) (a : Nat → Nat) (S : NV) : va_W := [(a 0, .inr (5, [.ref (a 1), .ref (a 2), .int (S 2 0)])), (a 1, .inl (cI, 7, .inl (S 0))), (a 2, .inl (cI, 7, .inl (S 1)))]
abbrev pWed (cI : ClassId) (a : Nat → Nat) (S : NV) : va_W := [(a 0, .inr (7, [.ref (a 1), .ref (a 2), .int (S 2 0)])), (a 1, .inl (cI, 7, .inl (S 0))), (a 2, .inl (cI, 7, .inl (S 1)))]
/-- Reader: place, start, token, value, lawsTold; its draft; Text: letters; length -/
abbrev pRdr (cI : ClassId) (a : Nat → Nat) (Q L V : NV) : va_W := [(a 0, .inr (4, [.ref (a 1), .int (Q 0 0), .int (Q 0 1), .int (Q 0 2), .int (Q 0 3), .int (Q 0 4)])), (a 1, .inr (1, [.ref (a 2), .ref (a 3), .ref (a 4), .ref (a 5), .int (L 3 0), .int (L 3 1)])), (a 2, .inl (cI, 7, .inl (L 0))), (a 3, .inl (cI, 7, .inl (L 1))), (a 4, .inl (cI, 7, .inl (L 2))), (a 5, .inr (2, [.ref (a 6), .ref (a 7), .ref (a 8), .int (V 3 0), .int (V 3 1), .int (V 3 2), .int (V 3 3)])), (a 6, .inl (cI, 7, .inl (V 0))), (a 7, .inl (cI, 7, .inl (V 1))), (a 8, .inl (cI, 7, .inl (V 2)))]
abbrev pTxt (cI : ClassId) (b : Nat → Nat) (T : NV) : va_W := [(b 0, .inr (6, [.ref (b 1), .int (T 1 0)])), (b 1, .inl (cI, 200, .inl (T 0)))]
/-- OneJohn, whole -/
abbrev pOne (cI cZ cN : ClassId) (a : Nat → Nat) (T Q Ld Vd L V S : NV) (R : Nat → NV) (C1 C2 Rn Wd : NV) (Im : Nat → NV) (K : NV) (tr : Int64) : va_W := [((a 0), .inr (8, [.ref (a 1), .ref (a 3), .ref (a 12), .ref (a 20), .ref (a 62), .ref (a 65), .ref (a 68), .ref (a 71), .ref (a 74), .ref (a 83), .long tr])), ((a 1), .inr (6, [.ref (a 2), .int (T 1 0)])), ((a 2), .inl (cI, 200, .inl (T 0))), ((a 3), .inr (4, [.ref (a 4), .int (Q 0 0), .int (Q 0 1), .int (Q 0 2), .int (Q 0 3), .int (Q 0 4)])), ((a 4), .inr (1, [.ref (a 5), .ref (a 6), .ref (a 7), .ref (a 8), .int (Ld 3 0), .int (Ld 3 1)])), ((a 5), .inl (cI, 7, .inl (Ld 0))), ((a 6), .inl (cI, 7, .inl (Ld 1))), ((a 7), .inl (cI, 7, .inl (Ld 2))), ((a 8), .inr (2, [.ref (a 9), .ref (a 10), .ref (a 11), .int (Vd 3 0), .int (Vd 3 1), .int (Vd 3 2), .int (Vd 3 3)])), ((a 9), .inl (cI, 7, .inl (Vd 0))), ((a 10), .inl (cI, 7, .inl (Vd 1))), ((a 11), .inl (cI, 7, .inl (Vd 2))), ((a 12), .inr (1, [.ref (a 13), .ref (a 14), .ref (a 15), .ref (a 16), .int (L 3 0), .int (L 3 1)])), ((a 13), .inl (cI, 7, .inl (L 0))), ((a 14), .inl (cI, 7, .inl (L 1))), ((a 15), .inl (cI, 7, .inl (L 2))), ((a 16), .inr (2, [.ref (a 17), .ref (a 18), .ref (a 19), .int (V 3 0), .int (V 3 1), .int (V 3 2), .int (V 3 3)])), ((a 17), .inl (cI, 7, .inl (V 0))), ((a 18), .inl (cI, 7, .inl (V 1))), ((a 19), .inl (cI, 7, .inl (V 2))), ((a 20), .inr (3, [.ref (a 21), .int (S 0 0), .int (S 0 1)])), ((a 21), .inl (cN, 10, .inr (.inr (.inr (.inr (fun i => some (a (4 * i + 22)))))))), ((a 22), .inr (2, [.ref (a 23), .ref (a 24), .ref (a 25), .int (R 0 3 0), .int (R 0 3 1), .int (R 0 3 2), .int (R 0 3 3)])), ((a 23), .inl (cI, 7, .inl (R 0 0))), ((a 24), .inl (cI, 7, .inl (R 0 1))), ((a 25), .inl (cI, 7, .inl (R 0 2))), ((a 26), .inr (2, [.ref (a 27), .ref (a 28), .ref (a 29), .int (R 1 3 0), .int (R 1 3 1), .int (R 1 3 2), .int (R 1 3 3)])), ((a 27), .inl (cI, 7, .inl (R 1 0))), ((a 28), .inl (cI, 7, .inl (R 1 1))), ((a 29), .inl (cI, 7, .inl (R 1 2))), ((a 30), .inr (2, [.ref (a 31), .ref (a 32), .ref (a 33), .int (R 2 3 0), .int (R 2 3 1), .int (R 2 3 2), .int (R 2 3 3)])), ((a 31), .inl (cI, 7, .inl (R 2 0))), ((a 32), .inl (cI, 7, .inl (R 2 1))), ((a 33), .inl (cI, 7, .inl (R 2 2))), ((a 34), .inr (2, [.ref (a 35), .ref (a 36), .ref (a 37), .int (R 3 3 0), .int (R 3 3 1), .int (R 3 3 2), .int (R 3 3 3)])), ((a 35), .inl (cI, 7, .inl (R 3 0))), ((a 36), .inl (cI, 7, .inl (R 3 1))), ((a 37), .inl (cI, 7, .inl (R 3 2))), ((a 38), .inr (2, [.ref (a 39), .ref (a 40), .ref (a 41), .int (R 4 3 0), .int (R 4 3 1), .int (R 4 3 2), .int (R 4 3 3)])), ((a 39), .inl (cI, 7, .inl (R 4 0))), ((a 40), .inl (cI, 7, .inl (R 4 1))), ((a 41), .inl (cI, 7, .inl (R 4 2))), ((a 42), .inr (2, [.ref (a 43), .ref (a 44), .ref (a 45), .int (R 5 3 0), .int (R 5 3 1), .int (R 5 3 2), .int (R 5 3 3)])), ((a 43), .inl (cI, 7, .inl (R 5 0))), ((a 44), .inl (cI, 7, .inl (R 5 1))), ((a 45), .inl (cI, 7, .inl (R 5 2))), ((a 46), .inr (2, [.ref (a 47), .ref (a 48), .ref (a 49), .int (R 6 3 0), .int (R 6 3 1), .int (R 6 3 2), .int (R 6 3 3)])), ((a 47), .inl (cI, 7, .inl (R 6 0))), ((a 48), .inl (cI, 7, .inl (R 6 1))), ((a 49), .inl (cI, 7, .inl (R 6 2))), ((a 50), .inr (2, [.ref (a 51), .ref (a 52), .ref (a 53), .int (R 7 3 0), .int (R 7 3 1), .int (R 7 3 2), .int (R 7 3 3)])), ((a 51), .inl (cI, 7, .inl (R 7 0))), ((a 52), .inl (cI, 7, .inl (R 7 1))), ((a 53), .inl (cI, 7, .inl (R 7 2))), ((a 54), .inr (2, [.ref (a 55), .ref (a 56), .ref (a 57), .int (R 8 3 0), .int (R 8 3 1), .int (R 8 3 2), .int (R 8 3 3)])), ((a 55), .inl (cI, 7, .inl (R 8 0))), ((a 56), .inl (cI, 7, .inl (R 8 1))), ((a 57), .inl (cI, 7, .inl (R 8 2))), ((a 58), .inr (2, [.ref (a 59), .ref (a 60), .ref (a 61), .int (R 9 3 0), .int (R 9 3 1), .int (R 9 3 2), .int (R 9 3 3)])), ((a 59), .inl (cI, 7, .inl (R 9 0))), ((a 60), .inl (cI, 7, .inl (R 9 1))), ((a 61), .inl (cI, 7, .inl (R 9 2))), ((a 62), .inr (0, [.ref (a 63), .ref (a 64), .int (C1 2 0)])), ((a 63), .inl (cI, 6, .inl (C1 0))), ((a 64), .inl (cI, 6, .inl (C1 1))), ((a 65), .inr (0, [.ref (a 66), .ref (a 67), .int (C2 2 0)])), ((a 66), .inl (cI, 6, .inl (C2 0))), ((a 67), .inl (cI, 6, .inl (C2 1))), ((a 68), .inr (5, [.ref (a 69), .ref (a 70), .int (Rn 2 0)])), ((a 69), .inl (cI, 7, .inl (Rn 0))), ((a 70), .inl (cI, 7, .inl (Rn 1))), ((a 71), .inr (7, [.ref (a 72), .ref (a 73), .int (Wd 2 0)])), ((a 72), .inl (cI, 7, .inl (Wd 0))), ((a 73), .inl (cI, 7, .inl (Wd 1))), ((a 74), .inl (cN, 2, .inr (.inr (.inr (.inr (fun i => some (a (4 * i + 75)))))))), ((a 75), .inr (2, [.ref (a 76), .ref (a 77), .ref (a 78), .int (Im 0 3 0), .int (Im 0 3 1), .int (Im 0 3 2), .int (Im 0 3 3)])), ((a 76), .inl (cI, 7, .inl (Im 0 0))), ((a 77), .inl (cI, 7, .inl (Im 0 1))), ((a 78), .inl (cI, 7, .inl (Im 0 2))), ((a 79), .inr (2, [.ref (a 80), .ref (a 81), .ref (a 82), .int (Im 1 3 0), .int (Im 1 3 1), .int (Im 1 3 2), .int (Im 1 3 3)])), ((a 80), .inl (cI, 7, .inl (Im 1 0))), ((a 81), .inl (cI, 7, .inl (Im 1 1))), ((a 82), .inl (cI, 7, .inl (Im 1 2))), ((a 83), .inl (cZ, 2, .inl (K 0)))]
/-- a static method over cells -/
theorem callSC {p : Program} {l : Launch} {e : Env} {R : Room} {s : State} {m : MethodId} {args : Array Value} {below : List Frame} {meth : Method} {c : Code} {H : Heap} {locs : List Loc} {cells slots : Nat} {Q : State → Prop} {cc : ByteArray} {nL pc : Nat} {ls : Array Slot} {rest : List Value} {D : va_G} {A : Nat → Prop} {tys : List (ClassId × FieldType)} {ws : va_W} {own : String} (S : CallFix p m c cc nL s args BW own) (hW : AtC D tys A ws s H locs) {y : MethodName} {b : ByteArray} {n : Nat} {rt : Option FieldType} {fr : Nat} {As : List Value} {wc : va_W} {post : Int32 → va_W → Prop} (hM : CtI l y b n rt fr D tys As wc post) {k : Nat} (hV : SM y b n rt k) {idx : Nat} (hl : Cond.methodLink own idx y ∈ BW) (isC : List Nat) (hC : isC.map (fun i => ws[i]?) = wc.map some) (hn : isC.Nodup)
    (hk : As.length = k) {st : List Value} (hst : st = As.reverse ++ rest) (hsz : ls.size = nL) (hro : (rest.map fun v => v.category).sum ≤ 8) (hR : fr + 1 ≤ R.frames ∧ 8 + (n + 11) + 40 * fr ≤ R.locals) (hf : cells ≤ R.cells ∧ slots ≤ R.slots) (hdg : decode cc pc = .ok (.invokestatic idx, 3))
    (kk : ∀ (r : Int32) (w1 : va_W) (H1 : Heap) (locs1 : List Loc), post r w1 → AtC D tys A (putW ws isC w1) s H1 locs1 → W p l e R s m args below meth c H1 locs1 cells slots Q (F0 m (pc + 3) ls (.int r :: rest))) : W p l e R s m args below meth c H locs cells slots Q (F0 m pc ls st) := by
  subst hst
  obtain ⟨hPc, hDc, hFc⟩ := hW.cut isC hC hn
  have hpre := hW.pre (av := As) isC hC hn
  obtain ⟨hN, hK, hP, hD, hS, hA⟩ := hW
  obtain ⟨v1, v2, v3, v5, v6, v7⟩ := hV
  refine va_calli (va_runS (As := As) (rest := rest) S (hM H.size) (va_cwS (ws' := BW) k S.2.2.2.2 (giB (fun w hw => by
    unfold va_wsS at hw
    rcases List.mem_append.mp hw with h | h
    · simp at h
      rcases h with rfl | rfl | rfl
      · exact hl
      · exact v1
      · exact v2
    · exact (List.mem_cons.mp h).elim (fun e => by rw [e]; exact v3) id)) rfl rfl rfl ⟨v5, v6, v7⟩ hR) ⟨PC.blind, hpre⟩ rfl hk hsz rfl (lv_room hro) hdg ⟨by simpa using hf.1, by simpa using hf.2⟩) hS (fun q _ h => hFc q h) hFc (fun r u t H1 locs1 ht hvm hw hB hz1 hk1 hS1 => ?_)
  obtain ⟨hP1, hf1⟩ := hB
  rw [ht] at hP1
  obtain ⟨g1, g2⟩ := putW_P hP hD isC hC hn hk1 hP1 hf1
  exact kk r u H1 locs1 hw ⟨hN, hK, g1, my_Dc g2 hD, hS1, hA⟩
