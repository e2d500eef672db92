theorem okX8_digest : hb_okV mX8_digest 0 := ⟨⟨hb_w 1 (by decide +kernel) (by decide +kernel), hb_w 785 (by decide +kernel) (by decide +kernel), ⟨by decide +kernel, by decide +kernel, by decide +kernel⟩, by decide⟩, hb_w 783 (by decide +kernel) (by decide +kernel), hb_w 784 (by decide +kernel) (by decide +kernel)⟩
theorem okX9_digest : hb_okV mX9_digest 0 := ⟨⟨hb_w 11 (by decide +kernel) (by decide +kernel), hb_w 1874 (by decide +kernel) (by decide +kernel), ⟨by decide +kernel, by decide +kernel, by decide +kernel⟩, by decide⟩, hb_w 1872 (by decide +kernel) (by decide +kernel), hb_w 1873 (by decide +kernel) (by decide +kernel)⟩
theorem okL_undo : hb_okX mL_undo 2 := ⟨⟨hb_w 0 (by decide +kernel) (by decide +kernel), hb_w 1304 (by decide +kernel) (by decide +kernel), ⟨by decide +kernel, by decide +kernel, by decide +kernel⟩, by decide⟩, hb_w 1303 (by decide +kernel) (by decide +kernel)⟩
theorem okX9_undo : hb_okV mX9_undo 0 := ⟨⟨hb_w 11 (by decide +kernel) (by decide +kernel), hb_w 1419 (by decide +kernel) (by decide +kernel), ⟨by decide +kernel, by decide +kernel, by decide +kernel⟩, by decide⟩, hb_w 1417 (by decide +kernel) (by decide +kernel), hb_w 1418 (by decide +kernel) (by decide +kernel)⟩
theorem okX9_thrown : hb_okV mX9_thrown 0 := ⟨⟨hb_w 11 (by decide +kernel) (by decide +kernel), hb_w 1415 (by decide +kernel) (by decide +kernel), ⟨by decide +kernel, by decide +kernel, by decide +kernel⟩, by decide⟩, hb_w 1413 (by decide +kernel) (by decide +kernel), hb_w 1414 (by decide +kernel) (by decide +kernel)⟩
theorem okL_growth : hb_okX mL_growth 4 := ⟨⟨hb_w 0 (by decide +kernel) (by decide +kernel), hb_w 1297 (by decide +kernel) (by decide +kernel), ⟨by decide +kernel, by decide +kernel, by decide +kernel⟩, by decide⟩, hb_w 1296 (by decide +kernel) (by decide +kernel)⟩
theorem okX9_growth : hb_okV mX9_growth 2 := ⟨⟨hb_w 11 (by decide +kernel) (by decide +kernel), hb_w 1870 (by decide +kernel) (by decide +kernel), ⟨by decide +kernel, by decide +kernel, by decide +kernel⟩, by decide⟩, hb_w 1868 (by decide +kernel) (by decide +kernel), hb_w 1869 (by decide +kernel) (by decide +kernel)⟩
theorem okL_compare : hb_okX mL_compare 4 := ⟨⟨hb_w 0 (by decide +kernel) (by decide +kernel), hb_w 1268 (by decide +kernel) (by decide +kernel), ⟨by decide +kernel, by decide +kernel, by decide +kernel⟩, by decide⟩, hb_w 1267 (by decide +kernel) (by decide +kernel)⟩
theorem okX9_compare : hb_okV mX9_compare 2 := ⟨⟨hb_w 11 (by decide +kernel) (by decide +kernel), hb_w 1858 (by decide +kernel) (by decide +kernel), ⟨by decide +kernel, by decide +kernel, by decide +kernel⟩, by decide⟩, hb_w 1856 (by decide +kernel) (by decide +kernel), hb_w 1857 (by decide +kernel) (by decide +kernel)⟩
theorem okL_take : hb_okX mL_take 3 := ⟨⟨hb_w 0 (by decide +kernel) (by decide +kernel), hb_w 1258 (by decide +kernel) (by decide +kernel), ⟨by decide +kernel, by decide +kernel, by decide +kernel⟩, by decide⟩, hb_w 1257 (by decide +kernel) (by decide +kernel)⟩
theorem okX9_take : hb_okV mX9_take 1 := ⟨⟨hb_w 11 (by decide +kernel) (by decide +kernel), hb_w 1847 (by decide +kernel) (by decide +kernel), ⟨by decide +kernel, by decide +kernel, by decide +kernel⟩, by decide⟩, hb_w 1845 (by decide +kernel) (by decide +kernel), hb_w 1846 (by decide +kernel) (by decide +kernel)⟩
theorem okX8_execute : hb_okV mX8_execute 0 := ⟨⟨hb_w 1 (by decide +kernel) (by decide +kernel), hb_w 669 (by decide +kernel) (by decide +kernel), ⟨by decide +kernel, by decide +kernel, by decide +kernel⟩, by decide⟩, hb_w 667 (by decide +kernel) (by decide +kernel), hb_w 668 (by decide +kernel) (by decide +kernel)⟩
theorem okX9_execute : hb_okV mX9_execute 0 := ⟨⟨hb_w 11 (by decide +kernel) (by decide +kernel), hb_w 1827 (by decide +kernel) (by decide +kernel), ⟨by decide +kernel, by decide +kernel, by decide +kernel⟩, by decide⟩, hb_w 1825 (by decide +kernel) (by decide +kernel), hb_w 1826 (by decide +kernel) (by decide +kernel)⟩
theorem okX9_matchSize : hb_okV mX9_matchSize 1 := ⟨⟨hb_w 11 (by decide +kernel) (by decide +kernel), hb_w 1823 (by decide +kernel) (by decide +kernel), ⟨by decide +kernel, by decide +kernel, by decide +kernel⟩, by decide⟩, hb_w 1821 (by decide +kernel) (by decide +kernel), hb_w 1822 (by decide +kernel) (by decide +kernel)⟩
theorem okX8_matchSize : hb_okV mX8_matchSize 1 := ⟨⟨hb_w 1 (by decide +kernel) (by decide +kernel), hb_w 655 (by decide +kernel) (by decide +kernel), ⟨by decide +kernel, by decide +kernel, by decide +kernel⟩, by decide⟩, hb_w 653 (by decide +kernel) (by decide +kernel), hb_w 654 (by decide +kernel) (by decide +kernel)⟩
theorem okX8_matchAt : hb_okV mX8_matchAt 1 := ⟨⟨hb_w 1 (by decide +kernel) (by decide +kernel), hb_w 647 (by decide +kernel) (by decide +kernel), ⟨by decide +kernel, by decide +kernel, by decide +kernel⟩, by decide⟩, hb_w 645 (by decide +kernel) (by decide +kernel), hb_w 646 (by decide +kernel) (by decide +kernel)⟩
theorem okX9_matchAt : hb_okV mX9_matchAt 1 := ⟨⟨hb_w 11 (by decide +kernel) (by decide +kernel), hb_w 1819 (by decide +kernel) (by decide +kernel), ⟨by decide +kernel, by decide +kernel, by decide +kernel⟩, by decide⟩, hb_w 1817 (by decide +kernel) (by decide +kernel), hb_w 1818 (by decide +kernel) (by decide +kernel)⟩
theorem okX8_matches : hb_okV mX8_matches 0 := ⟨⟨hb_w 1 (by decide +kernel) (by decide +kernel), hb_w 468 (by decide +kernel) (by decide +kernel), ⟨by decide +kernel, by decide +kernel, by decide +kernel⟩, by decide⟩, hb_w 466 (by decide +kernel) (by decide +kernel), hb_w 467 (by decide +kernel) (by decide +kernel)⟩
theorem okX9_matches : hb_okV mX9_matches 0 := ⟨⟨hb_w 11 (by decide +kernel) (by decide +kernel), hb_w 1769 (by decide +kernel) (by decide +kernel), ⟨by decide +kernel, by decide +kernel, by decide +kernel⟩, by decide⟩, hb_w 1767 (by decide +kernel) (by decide +kernel), hb_w 1768 (by decide +kernel) (by decide +kernel)⟩
theorem okX8_clearText : hb_okV mX8_clearText 0 := ⟨⟨hb_w 1 (by decide +kernel) (by decide +kernel), hb_w 464 (by decide +kernel) (by decide +kernel), ⟨by decide +kernel, by decide +kernel, by decide +kernel⟩, by decide⟩, hb_w 462 (by decide +kernel) (by decide +kernel), hb_w 463 (by decide +kernel) (by decide +kernel)⟩
theorem okX9_clearText : hb_okV mX9_clearText 0 := ⟨⟨hb_w 11 (by decide +kernel) (by decide +kernel), hb_w 1765 (by decide +kernel) (by decide +kernel), ⟨by decide +kernel, by decide +kernel, by decide +kernel⟩, by decide⟩, hb_w 1763 (by decide +kernel) (by decide +kernel), hb_w 1764 (by decide +kernel) (by decide +kernel)⟩
theorem okL_append : hb_okX mL_append 3 := ⟨⟨hb_w 0 (by decide +kernel) (by decide +kernel), hb_w 1247 (by decide +kernel) (by decide +kernel), ⟨by decide +kernel, by decide +kernel, by decide +kernel⟩, by decide⟩, hb_w 1246 (by decide +kernel) (by decide +kernel)⟩
theorem okX9_append : hb_okV mX9_append 1 := ⟨⟨hb_w 11 (by decide +kernel) (by decide +kernel), hb_w 1761 (by decide +kernel) (by decide +kernel), ⟨by decide +kernel, by decide +kernel, by decide +kernel⟩, by decide⟩, hb_w 1759 (by decide +kernel) (by decide +kernel), hb_w 1760 (by decide +kernel) (by decide +kernel)⟩
theorem okL_accumulationPoint : hb_okX mL_accumulationPoint 4 := ⟨⟨hb_w 0 (by decide +kernel) (by decide +kernel), hb_w 1234 (by decide +kernel) (by decide +kernel), ⟨by decide +kernel, by decide +kernel, by decide +kernel⟩, by decide⟩, hb_w 1233 (by decide +kernel) (by decide +kernel)⟩
theorem okX9_accumulationPoint : hb_okV mX9_accumulationPoint 2 := ⟨⟨hb_w 11 (by decide +kernel) (by decide +kernel), hb_w 1757 (by decide +kernel) (by decide +kernel), ⟨by decide +kernel, by decide +kernel, by decide +kernel⟩, by decide⟩, hb_w 1755 (by decide +kernel) (by decide +kernel), hb_w 1756 (by decide +kernel) (by decide +kernel)⟩
theorem okL_suspectAt : hb_okX mL_suspectAt 4 := ⟨⟨hb_w 0 (by decide +kernel) (by decide +kernel), hb_w 1210 (by decide +kernel) (by decide +kernel), ⟨by decide +kernel, by decide +kernel, by decide +kernel⟩, by decide⟩, hb_w 1209 (by decide +kernel) (by decide +kernel)⟩
theorem okX9_suspectAt : hb_okV mX9_suspectAt 2 := ⟨⟨hb_w 11 (by decide +kernel) (by decide +kernel), hb_w 1744 (by decide +kernel) (by decide +kernel), ⟨by decide +kernel, by decide +kernel, by decide +kernel⟩, by decide⟩, hb_w 1742 (by decide +kernel) (by decide +kernel), hb_w 1743 (by decide +kernel) (by decide +kernel)⟩
theorem okL_shareBits : hb_okX mL_shareBits 3 := ⟨⟨hb_w 0 (by decide +kernel) (by decide +kernel), hb_w 1203 (by decide +kernel) (by decide +kernel), ⟨by decide +kernel, by decide +kernel, by decide +kernel⟩, by decide⟩, hb_w 1202 (by decide +kernel) (by decide +kernel)⟩
theorem okX9_shareBits : hb_okV mX9_shareBits 1 := ⟨⟨hb_w 11 (by decide +kernel) (by decide +kernel), hb_w 1730 (by decide +kernel) (by decide +kernel), ⟨by decide +kernel, by decide +kernel, by decide +kernel⟩, by decide⟩, hb_w 1728 (by decide +kernel) (by decide +kernel), hb_w 1729 (by decide +kernel) (by decide +kernel)⟩
theorem okL_meanRetainedBits : hb_okX mL_meanRetainedBits 3 := ⟨⟨hb_w 0 (by decide +kernel) (by decide +kernel), hb_w 1192 (by decide +kernel) (by decide +kernel), ⟨by decide +kernel, by decide +kernel, by decide +kernel⟩, by decide⟩, hb_w 1191 (by decide +kernel) (by decide +kernel)⟩
theorem okX9_meanRetainedBits : hb_okV mX9_meanRetainedBits 1 := ⟨⟨hb_w 11 (by decide +kernel) (by decide +kernel), hb_w 1716 (by decide +kernel) (by decide +kernel), ⟨by decide +kernel, by decide +kernel, by decide +kernel⟩, by decide⟩, hb_w 1714 (by decide +kernel) (by decide +kernel), hb_w 1715 (by decide +kernel) (by decide +kernel)⟩
theorem okX9_group : hb_okV mX9_group 3 := ⟨⟨hb_w 11 (by decide +kernel) (by decide +kernel), hb_w 1704 (by decide +kernel) (by decide +kernel), ⟨by decide +kernel, by decide +kernel, by decide +kernel⟩, by decide⟩, hb_w 1702 (by decide +kernel) (by decide +kernel), hb_w 1703 (by decide +kernel) (by decide +kernel)⟩
theorem okL_group : hb_okX mL_group 5 := ⟨⟨hb_w 0 (by decide +kernel) (by decide +kernel), hb_w 1180 (by decide +kernel) (by decide +kernel), ⟨by decide +kernel, by decide +kernel, by decide +kernel⟩, by decide⟩, hb_w 1179 (by decide +kernel) (by decide +kernel)⟩
theorem okL_freedByUnrooting : hb_okX mL_freedByUnrooting 3 := ⟨⟨hb_w 0 (by decide +kernel) (by decide +kernel), hb_w 1169 (by decide +kernel) (by decide +kernel), ⟨by decide +kernel, by decide +kernel, by decide +kernel⟩, by decide⟩, hb_w 1168 (by decide +kernel) (by decide +kernel)⟩
theorem okX9_freedByUnrooting : hb_okV mX9_freedByUnrooting 1 := ⟨⟨hb_w 11 (by decide +kernel) (by decide +kernel), hb_w 1700 (by decide +kernel) (by decide +kernel), ⟨by decide +kernel, by decide +kernel, by decide +kernel⟩, by decide⟩, hb_w 1698 (by decide +kernel) (by decide +kernel), hb_w 1699 (by decide +kernel) (by decide +kernel)⟩
theorem okL_freedByClearing : hb_okX mL_freedByClearing 4 := ⟨⟨hb_w 0 (by decide +kernel) (by decide +kernel), hb_w 1158 (by decide +kernel) (by decide +kernel), ⟨by decide +kernel, by decide +kernel, by decide +kernel⟩, by decide⟩, hb_w 1157 (by decide +kernel) (by decide +kernel)⟩
theorem okX9_freedByClearing : hb_okV mX9_freedByClearing 2 := ⟨⟨hb_w 11 (by decide +kernel) (by decide +kernel), hb_w 1696 (by decide +kernel) (by decide +kernel), ⟨by decide +kernel, by decide +kernel, by decide +kernel⟩, by decide⟩, hb_w 1694 (by decide +kernel) (by decide +kernel), hb_w 1695 (by decide +kernel) (by decide +kernel)⟩
theorem okL_componentSize : hb_okX mL_componentSize 3 := ⟨⟨hb_w 0 (by decide +kernel) (by decide +kernel), hb_w 1147 (by decide +kernel) (by decide +kernel), ⟨by decide +kernel, by decide +kernel, by decide +kernel⟩, by decide⟩, hb_w 1146 (by decide +kernel) (by decide +kernel)⟩
theorem okX9_componentSize : hb_okV mX9_componentSize 1 := ⟨⟨hb_w 11 (by decide +kernel) (by decide +kernel), hb_w 1692 (by decide +kernel) (by decide +kernel), ⟨by decide +kernel, by decide +kernel, by decide +kernel⟩, by decide⟩, hb_w 1690 (by decide +kernel) (by decide +kernel), hb_w 1691 (by decide +kernel) (by decide +kernel)⟩
theorem okL_component : hb_okX mL_component 3 := ⟨⟨hb_w 0 (by decide +kernel) (by decide +kernel), hb_w 1140 (by decide +kernel) (by decide +kernel), ⟨by decide +kernel, by decide +kernel, by decide +kernel⟩, by decide⟩, hb_w 1139 (by decide +kernel) (by decide +kernel)⟩
theorem okX9_component : hb_okV mX9_component 1 := ⟨⟨hb_w 11 (by decide +kernel) (by decide +kernel), hb_w 1680 (by decide +kernel) (by decide +kernel), ⟨by decide +kernel, by decide +kernel, by decide +kernel⟩, by decide⟩, hb_w 1678 (by decide +kernel) (by decide +kernel), hb_w 1679 (by decide +kernel) (by decide +kernel)⟩
theorem okL_retainedObjects : hb_okX mL_retainedObjects 3 := ⟨⟨hb_w 0 (by decide +kernel) (by decide +kernel), hb_w 1132 (by decide +kernel) (by decide +kernel), ⟨by decide +kernel, by decide +kernel, by decide +kernel⟩, by decide⟩, hb_w 1131 (by decide +kernel) (by decide +kernel)⟩
theorem okX9_retainedObjects : hb_okV mX9_retainedObjects 1 := ⟨⟨hb_w 11 (by decide +kernel) (by decide +kernel), hb_w 1673 (by decide +kernel) (by decide +kernel), ⟨by decide +kernel, by decide +kernel, by decide +kernel⟩, by decide⟩, hb_w 1671 (by decide +kernel) (by decide +kernel), hb_w 1672 (by decide +kernel) (by decide +kernel)⟩
theorem okL_retainedSize : hb_okX mL_retainedSize 3 := ⟨⟨hb_w 0 (by decide +kernel) (by decide +kernel), hb_w 1125 (by decide +kernel) (by decide +kernel), ⟨by decide +kernel, by decide +kernel, by decide +kernel⟩, by decide⟩, hb_w 1124 (by decide +kernel) (by decide +kernel)⟩
theorem okX9_retainedSize : hb_okV mX9_retainedSize 1 := ⟨⟨hb_w 11 (by decide +kernel) (by decide +kernel), hb_w 1661 (by decide +kernel) (by decide +kernel), ⟨by decide +kernel, by decide +kernel, by decide +kernel⟩, by decide⟩, hb_w 1659 (by decide +kernel) (by decide +kernel), hb_w 1660 (by decide +kernel) (by decide +kernel)⟩
theorem okL_dominatedAt : hb_okX mL_dominatedAt 4 := ⟨⟨hb_w 0 (by decide +kernel) (by decide +kernel), hb_w 1114 (by decide +kernel) (by decide +kernel), ⟨by decide +kernel, by decide +kernel, by decide +kernel⟩, by decide⟩, hb_w 1113 (by decide +kernel) (by decide +kernel)⟩
theorem okX9_dominatedAt : hb_okV mX9_dominatedAt 2 := ⟨⟨hb_w 11 (by decide +kernel) (by decide +kernel), hb_w 1657 (by decide +kernel) (by decide +kernel), ⟨by decide +kernel, by decide +kernel, by decide +kernel⟩, by decide⟩, hb_w 1655 (by decide +kernel) (by decide +kernel), hb_w 1656 (by decide +kernel) (by decide +kernel)⟩
theorem okL_depth : hb_okX mL_depth 3 := ⟨⟨hb_w 0 (by decide +kernel) (by decide +kernel), hb_w 1107 (by decide +kernel) (by decide +kernel), ⟨by decide +kernel, by decide +kernel, by decide +kernel⟩, by decide⟩, hb_w 1106 (by decide +kernel) (by decide +kernel)⟩
theorem okX9_depth : hb_okV mX9_depth 1 := ⟨⟨hb_w 11 (by decide +kernel) (by decide +kernel), hb_w 1653 (by decide +kernel) (by decide +kernel), ⟨by decide +kernel, by decide +kernel, by decide +kernel⟩, by decide⟩, hb_w 1651 (by decide +kernel) (by decide +kernel), hb_w 1652 (by decide +kernel) (by decide +kernel)⟩
theorem okL_dominator : hb_okX mL_dominator 3 := ⟨⟨hb_w 0 (by decide +kernel) (by decide +kernel), hb_w 1100 (by decide +kernel) (by decide +kernel), ⟨by decide +kernel, by decide +kernel, by decide +kernel⟩, by decide⟩, hb_w 1099 (by decide +kernel) (by decide +kernel)⟩
theorem okX9_dominator : hb_okV mX9_dominator 1 := ⟨⟨hb_w 11 (by decide +kernel) (by decide +kernel), hb_w 1637 (by decide +kernel) (by decide +kernel), ⟨by decide +kernel, by decide +kernel, by decide +kernel⟩, by decide⟩, hb_w 1635 (by decide +kernel) (by decide +kernel), hb_w 1636 (by decide +kernel) (by decide +kernel)⟩
theorem okL_dominates : hb_okX mL_dominates 4 := ⟨⟨hb_w 0 (by decide +kernel) (by decide +kernel), hb_w 1093 (by decide +kernel) (by decide +kernel), ⟨by decide +kernel, by decide +kernel, by decide +kernel⟩, by decide⟩, hb_w 1092 (by decide +kernel) (by decide +kernel)⟩
theorem okX9_dominates : hb_okV mX9_dominates 2 := ⟨⟨hb_w 11 (by decide +kernel) (by decide +kernel), hb_w 1629 (by decide +kernel) (by decide +kernel), ⟨by decide +kernel, by decide +kernel, by decide +kernel⟩, by decide⟩, hb_w 1627 (by decide +kernel) (by decide +kernel), hb_w 1628 (by decide +kernel) (by decide +kernel)⟩
theorem okL_pathAt : hb_okX mL_pathAt 4 := ⟨⟨hb_w 0 (by decide +kernel) (by decide +kernel), hb_w 1082 (by decide +kernel) (by decide +kernel), ⟨by decide +kernel, by decide +kernel, by decide +kernel⟩, by decide⟩, hb_w 1081 (by decide +kernel) (by decide +kernel)⟩
theorem okX9_pathAt : hb_okV mX9_pathAt 2 := ⟨⟨hb_w 11 (by decide +kernel) (by decide +kernel), hb_w 1622 (by decide +kernel) (by decide +kernel), ⟨by decide +kernel, by decide +kernel, by decide +kernel⟩, by decide⟩, hb_w 1620 (by decide +kernel) (by decide +kernel), hb_w 1621 (by decide +kernel) (by decide +kernel)⟩
theorem okL_distance : hb_okX mL_distance 3 := ⟨⟨hb_w 0 (by decide +kernel) (by decide +kernel), hb_w 1075 (by decide +kernel) (by decide +kernel), ⟨by decide +kernel, by decide +kernel, by decide +kernel⟩, by decide⟩, hb_w 1074 (by decide +kernel) (by decide +kernel)⟩
theorem okX9_distance : hb_okV mX9_distance 1 := ⟨⟨hb_w 11 (by decide +kernel) (by decide +kernel), hb_w 1610 (by decide +kernel) (by decide +kernel), ⟨by decide +kernel, by decide +kernel, by decide +kernel⟩, by decide⟩, hb_w 1608 (by decide +kernel) (by decide +kernel), hb_w 1609 (by decide +kernel) (by decide +kernel)⟩
theorem okL_populate : hb_okX mL_populate 4 := ⟨⟨hb_w 0 (by decide +kernel) (by decide +kernel), hb_w 1038 (by decide +kernel) (by decide +kernel), ⟨by decide +kernel, by decide +kernel, by decide +kernel⟩, by decide⟩, hb_w 1037 (by decide +kernel) (by decide +kernel)⟩
theorem okX9_populate : hb_okV mX9_populate 2 := ⟨⟨hb_w 11 (by decide +kernel) (by decide +kernel), hb_w 1594 (by decide +kernel) (by decide +kernel), ⟨by decide +kernel, by decide +kernel, by decide +kernel⟩, by decide⟩, hb_w 1592 (by decide +kernel) (by decide +kernel), hb_w 1593 (by decide +kernel) (by decide +kernel)⟩
theorem okL_objectInfo : hb_okX mL_objectInfo 4 := ⟨⟨hb_w 0 (by decide +kernel) (by decide +kernel), hb_w 1031 (by decide +kernel) (by decide +kernel), ⟨by decide +kernel, by decide +kernel, by decide +kernel⟩, by decide⟩, hb_w 1030 (by decide +kernel) (by decide +kernel)⟩
theorem okX9_objectInfo : hb_okV mX9_objectInfo 2 := ⟨⟨hb_w 11 (by decide +kernel) (by decide +kernel), hb_w 1578 (by decide +kernel) (by decide +kernel), ⟨by decide +kernel, by decide +kernel, by decide +kernel⟩, by decide⟩, hb_w 1576 (by decide +kernel) (by decide +kernel), hb_w 1577 (by decide +kernel) (by decide +kernel)⟩
theorem okX8_exists : hb_okV mX8_exists 1 := ⟨⟨hb_w 1 (by decide +kernel) (by decide +kernel), hb_w 459 (by decide +kernel) (by decide +kernel), ⟨by decide +kernel, by decide +kernel, by decide +kernel⟩, by decide⟩, hb_w 457 (by decide +kernel) (by decide +kernel), hb_w 458 (by decide +kernel) (by decide +kernel)⟩
theorem okX9_exists : hb_okV mX9_exists 1 := ⟨⟨hb_w 11 (by decide +kernel) (by decide +kernel), hb_w 1574 (by decide +kernel) (by decide +kernel), ⟨by decide +kernel, by decide +kernel, by decide +kernel⟩, by decide⟩, hb_w 1572 (by decide +kernel) (by decide +kernel), hb_w 1573 (by decide +kernel) (by decide +kernel)⟩
theorem okX8_objects : hb_okV mX8_objects 0 := ⟨⟨hb_w 1 (by decide +kernel) (by decide +kernel), hb_w 450 (by decide +kernel) (by decide +kernel), ⟨by decide +kernel, by decide +kernel, by decide +kernel⟩, by decide⟩, hb_w 448 (by decide +kernel) (by decide +kernel), hb_w 449 (by decide +kernel) (by decide +kernel)⟩
theorem okX9_objects : hb_okV mX9_objects 0 := ⟨⟨hb_w 11 (by decide +kernel) (by decide +kernel), hb_w 1570 (by decide +kernel) (by decide +kernel), ⟨by decide +kernel, by decide +kernel, by decide +kernel⟩, by decide⟩, hb_w 1568 (by decide +kernel) (by decide +kernel), hb_w 1569 (by decide +kernel) (by decide +kernel)⟩
theorem okX8_collect : hb_okV mX8_collect 0 := ⟨⟨hb_w 1 (by decide +kernel) (by decide +kernel), hb_w 319 (by decide +kernel) (by decide +kernel), ⟨by decide +kernel, by decide +kernel, by decide +kernel⟩, by decide⟩, hb_w 317 (by decide +kernel) (by decide +kernel), hb_w 318 (by decide +kernel) (by decide +kernel)⟩
theorem okX9_collect : hb_okV mX9_collect 0 := ⟨⟨hb_w 11 (by decide +kernel) (by decide +kernel), hb_w 1549 (by decide +kernel) (by decide +kernel), ⟨by decide +kernel, by decide +kernel, by decide +kernel⟩, by decide⟩, hb_w 1547 (by decide +kernel) (by decide +kernel), hb_w 1548 (by decide +kernel) (by decide +kernel)⟩
theorem okL_removeRoot : hb_okX mL_removeRoot 4 := ⟨⟨hb_w 0 (by decide +kernel) (by decide +kernel), hb_w 1023 (by decide +kernel) (by decide +kernel), ⟨by decide +kernel, by decide +kernel, by decide +kernel⟩, by decide⟩, hb_w 1022 (by decide +kernel) (by decide +kernel)⟩
theorem okX9_removeRoot : hb_okV mX9_removeRoot 2 := ⟨⟨hb_w 11 (by decide +kernel) (by decide +kernel), hb_w 1541 (by decide +kernel) (by decide +kernel), ⟨by decide +kernel, by decide +kernel, by decide +kernel⟩, by decide⟩, hb_w 1539 (by decide +kernel) (by decide +kernel), hb_w 1540 (by decide +kernel) (by decide +kernel)⟩
theorem okL_addRoot : hb_okX mL_addRoot 4 := ⟨⟨hb_w 0 (by decide +kernel) (by decide +kernel), hb_w 1014 (by decide +kernel) (by decide +kernel), ⟨by decide +kernel, by decide +kernel, by decide +kernel⟩, by decide⟩, hb_w 1013 (by decide +kernel) (by decide +kernel)⟩
theorem okX9_addRoot : hb_okV mX9_addRoot 2 := ⟨⟨hb_w 11 (by decide +kernel) (by decide +kernel), hb_w 1533 (by decide +kernel) (by decide +kernel), ⟨by decide +kernel, by decide +kernel, by decide +kernel⟩, by decide⟩, hb_w 1531 (by decide +kernel) (by decide +kernel), hb_w 1532 (by decide +kernel) (by decide +kernel)⟩
theorem okL_referent : hb_okX mL_referent 3 := ⟨⟨hb_w 0 (by decide +kernel) (by decide +kernel), hb_w 1007 (by decide +kernel) (by decide +kernel), ⟨by decide +kernel, by decide +kernel, by decide +kernel⟩, by decide⟩, hb_w 1006 (by decide +kernel) (by decide +kernel)⟩
theorem okX9_referent : hb_okV mX9_referent 1 := ⟨⟨hb_w 11 (by decide +kernel) (by decide +kernel), hb_w 1529 (by decide +kernel) (by decide +kernel), ⟨by decide +kernel, by decide +kernel, by decide +kernel⟩, by decide⟩, hb_w 1527 (by decide +kernel) (by decide +kernel), hb_w 1528 (by decide +kernel) (by decide +kernel)⟩
theorem okL_resizeArray : hb_okX mL_resizeArray 4 := ⟨⟨hb_w 0 (by decide +kernel) (by decide +kernel), hb_w 992 (by decide +kernel) (by decide +kernel), ⟨by decide +kernel, by decide +kernel, by decide +kernel⟩, by decide⟩, hb_w 991 (by decide +kernel) (by decide +kernel)⟩
theorem okX9_resizeArray : hb_okV mX9_resizeArray 2 := ⟨⟨hb_w 11 (by decide +kernel) (by decide +kernel), hb_w 1525 (by decide +kernel) (by decide +kernel), ⟨by decide +kernel, by decide +kernel, by decide +kernel⟩, by decide⟩, hb_w 1523 (by decide +kernel) (by decide +kernel), hb_w 1524 (by decide +kernel) (by decide +kernel)⟩
theorem okL_get : hb_okX mL_get 4 := ⟨⟨hb_w 0 (by decide +kernel) (by decide +kernel), hb_w 984 (by decide +kernel) (by decide +kernel), ⟨by decide +kernel, by decide +kernel, by decide +kernel⟩, by decide⟩, hb_w 983 (by decide +kernel) (by decide +kernel)⟩
theorem okX9_get : hb_okV mX9_get 2 := ⟨⟨hb_w 11 (by decide +kernel) (by decide +kernel), hb_w 1521 (by decide +kernel) (by decide +kernel), ⟨by decide +kernel, by decide +kernel, by decide +kernel⟩, by decide⟩, hb_w 1519 (by decide +kernel) (by decide +kernel), hb_w 1520 (by decide +kernel) (by decide +kernel)⟩
theorem okL_set : hb_okX mL_set 5 := ⟨⟨hb_w 0 (by decide +kernel) (by decide +kernel), hb_w 975 (by decide +kernel) (by decide +kernel), ⟨by decide +kernel, by decide +kernel, by decide +kernel⟩, by decide⟩, hb_w 974 (by decide +kernel) (by decide +kernel)⟩
theorem okX9_set : hb_okV mX9_set 3 := ⟨⟨hb_w 11 (by decide +kernel) (by decide +kernel), hb_w 1509 (by decide +kernel) (by decide +kernel), ⟨by decide +kernel, by decide +kernel, by decide +kernel⟩, by decide⟩, hb_w 1507 (by decide +kernel) (by decide +kernel), hb_w 1508 (by decide +kernel) (by decide +kernel)⟩
theorem okL_newHolder : hb_okX mL_newHolder 2 := ⟨⟨hb_w 0 (by decide +kernel) (by decide +kernel), hb_w 966 (by decide +kernel) (by decide +kernel), ⟨by decide +kernel, by decide +kernel, by decide +kernel⟩, by decide⟩, hb_w 965 (by decide +kernel) (by decide +kernel)⟩
theorem okX9_newHolder : hb_okV mX9_newHolder 0 := ⟨⟨hb_w 11 (by decide +kernel) (by decide +kernel), hb_w 1505 (by decide +kernel) (by decide +kernel), ⟨by decide +kernel, by decide +kernel, by decide +kernel⟩, by decide⟩, hb_w 1503 (by decide +kernel) (by decide +kernel), hb_w 1504 (by decide +kernel) (by decide +kernel)⟩
theorem okL_newArray : hb_okX mL_newArray 3 := ⟨⟨hb_w 0 (by decide +kernel) (by decide +kernel), hb_w 957 (by decide +kernel) (by decide +kernel), ⟨by decide +kernel, by decide +kernel, by decide +kernel⟩, by decide⟩, hb_w 956 (by decide +kernel) (by decide +kernel)⟩
theorem okX9_newArray : hb_okV mX9_newArray 1 := ⟨⟨hb_w 11 (by decide +kernel) (by decide +kernel), hb_w 1497 (by decide +kernel) (by decide +kernel), ⟨by decide +kernel, by decide +kernel, by decide +kernel⟩, by decide⟩, hb_w 1495 (by decide +kernel) (by decide +kernel), hb_w 1496 (by decide +kernel) (by decide +kernel)⟩
theorem okL_newInstance : hb_okX mL_newInstance 3 := ⟨⟨hb_w 0 (by decide +kernel) (by decide +kernel), hb_w 948 (by decide +kernel) (by decide +kernel), ⟨by decide +kernel, by decide +kernel, by decide +kernel⟩, by decide⟩, hb_w 947 (by decide +kernel) (by decide +kernel)⟩
theorem okX9_newInstance : hb_okV mX9_newInstance 1 := ⟨⟨hb_w 11 (by decide +kernel) (by decide +kernel), hb_w 1474 (by decide +kernel) (by decide +kernel), ⟨by decide +kernel, by decide +kernel, by decide +kernel⟩, by decide⟩, hb_w 1472 (by decide +kernel) (by decide +kernel), hb_w 1473 (by decide +kernel) (by decide +kernel)⟩
theorem okL_isSubclass : hb_okX mL_isSubclass 4 := ⟨⟨hb_w 0 (by decide +kernel) (by decide +kernel), hb_w 937 (by decide +kernel) (by decide +kernel), ⟨by decide +kernel, by decide +kernel, by decide +kernel⟩, by decide⟩, hb_w 936 (by decide +kernel) (by decide +kernel)⟩
theorem okX9_isSubclass : hb_okV mX9_isSubclass 2 := ⟨⟨hb_w 11 (by decide +kernel) (by decide +kernel), hb_w 1466 (by decide +kernel) (by decide +kernel), ⟨by decide +kernel, by decide +kernel, by decide +kernel⟩, by decide⟩, hb_w 1464 (by decide +kernel) (by decide +kernel), hb_w 1465 (by decide +kernel) (by decide +kernel)⟩
theorem okL_classInfo : hb_okX mL_classInfo 4 := ⟨⟨hb_w 0 (by decide +kernel) (by decide +kernel), hb_w 928 (by decide +kernel) (by decide +kernel), ⟨by decide +kernel, by decide +kernel, by decide +kernel⟩, by decide⟩, hb_w 927 (by decide +kernel) (by decide +kernel)⟩
theorem okX9_classInfo : hb_okV mX9_classInfo 2 := ⟨⟨hb_w 11 (by decide +kernel) (by decide +kernel), hb_w 1454 (by decide +kernel) (by decide +kernel), ⟨by decide +kernel, by decide +kernel, by decide +kernel⟩, by decide⟩, hb_w 1452 (by decide +kernel) (by decide +kernel), hb_w 1453 (by decide +kernel) (by decide +kernel)⟩
theorem okX8_classes : hb_okV mX8_classes 0 := ⟨⟨hb_w 1 (by decide +kernel) (by decide +kernel), hb_w 315 (by decide +kernel) (by decide +kernel), ⟨by decide +kernel, by decide +kernel, by decide +kernel⟩, by decide⟩, hb_w 313 (by decide +kernel) (by decide +kernel), hb_w 314 (by decide +kernel) (by decide +kernel)⟩
theorem okX9_classes : hb_okV mX9_classes 0 := ⟨⟨hb_w 11 (by decide +kernel) (by decide +kernel), hb_w 1450 (by decide +kernel) (by decide +kernel), ⟨by decide +kernel, by decide +kernel, by decide +kernel⟩, by decide⟩, hb_w 1448 (by decide +kernel) (by decide +kernel), hb_w 1449 (by decide +kernel) (by decide +kernel)⟩
theorem okL_defineClass : hb_okX mL_defineClass 5 := ⟨⟨hb_w 0 (by decide +kernel) (by decide +kernel), hb_w 814 (by decide +kernel) (by decide +kernel), ⟨by decide +kernel, by decide +kernel, by decide +kernel⟩, by decide⟩, hb_w 813 (by decide +kernel) (by decide +kernel)⟩
theorem okX9_defineClass : hb_okV mX9_defineClass 3 := ⟨⟨hb_w 11 (by decide +kernel) (by decide +kernel), hb_w 1427 (by decide +kernel) (by decide +kernel), ⟨by decide +kernel, by decide +kernel, by decide +kernel⟩, by decide⟩, hb_w 1425 (by decide +kernel) (by decide +kernel), hb_w 1426 (by decide +kernel) (by decide +kernel)⟩
theorem okX8_init : hb_okI mX8_init 0 := ⟨⟨hb_w 1 (by decide +kernel) (by decide +kernel), hb_w 33 (by decide +kernel) (by decide +kernel), ⟨by decide +kernel, by decide +kernel, by decide +kernel⟩, by decide⟩, rfl, hb_w 32 (by decide +kernel) (by decide +kernel), rfl⟩
theorem okX9_init : hb_okI mX9_init 0 := ⟨⟨hb_w 11 (by decide +kernel) (by decide +kernel), hb_w 1322 (by decide +kernel) (by decide +kernel), ⟨by decide +kernel, by decide +kernel, by decide +kernel⟩, by decide⟩, rfl, hb_w 1321 (by decide +kernel) (by decide +kernel), rfl⟩
def mL_law : hb_Y := (x, cL_law, 8, (some .boolean), [], true)
set_option maxHeartbeats 4000000 in
set_option maxRecDepth 20000 in
theorem c_L_law_b2704 {G : hb_G} {l : Launch} (hl : l.stackTraces = false) {n : Nat}  (k23 : Nat → Nat → Nat → Int32 → hb_M → Option (Int32 × hb_M)) (hk23 : ∀ (x1 : Nat) (x2 : Nat) (x3 : Nat) (x4 : Int32) (σ : hb_M) (r : (Int32 × hb_M)), k23 x1 x2 x3 x4 σ = some r → hb_T G l true mL_law 83 (3 * n) (18 * n) 23 [(0, .retAddr 0), (1, .ref x1), (2, .ref x2), (3, .ref x3), (4, .int x4)] [] σ (.inl (some (.int r.1)), r.2))  {x1 : Nat} {x2 : Nat} {x3 : Nat} {x4 : Int32} {σ : hb_M} {r : (Int32 × hb_M)} (h : f_L_law_b2704 G.2.2.2.2.1 G.2.2.2.2.2 k23 x1 x2 x3 x4 σ = some r) : hb_T G l true mL_law 83 (3 * n) (18 * n) 2704 [(0, .retAddr 0), (1, .ref x1), (2, .ref x2), (3, .ref x3), (4, .int x4)] [] σ (.inl (some (.int r.1)), r.2) := by
  unfold f_L_law_b2704 at h
  refine hs_iinc2 (k := (4 : Int32)) (lv' := [(4, .int (x4 + (4 : Int32))), (0, .retAddr 0), (1, .ref x1), (2, .ref x2), (3, .ref x3)]) dL_law_2704 (by decide) 4 rfl (by decide) rfl ?_
  refine hs_goto (tgt := 23) dL_law_2707 (by decide) ?_
  refine hs_sub (lv' := [(0, .retAddr 0), (1, .ref x1), (2, .ref x2), (3, .ref x3), (4, .int (x4 + (4 : Int32)))]) [1, 2, 3, 4, 0] rfl ?_
  refine hs_weak (rc' := (3 * n)) (rs' := (18 * n)) (by omega) (by omega) ?_
  exact hk23 _ _ _ _ _ _ h
set_option maxHeartbeats 4000000 in
set_option maxRecDepth 20000 in
theorem c_L_law_b2690 {G : hb_G} {l : Launch} (hl : l.stackTraces = false) {n : Nat}  (k23 : Nat → Nat → Nat → Int32 → hb_M → Option (Int32 × hb_M)) (hk23 : ∀ (x1 : Nat) (x2 : Nat) (x3 : Nat) (x4 : Int32) (σ : hb_M) (r : (Int32 × hb_M)), k23 x1 x2 x3 x4 σ = some r → hb_T G l true mL_law 83 (3 * n) (18 * n) 23 [(0, .retAddr 0), (1, .ref x1), (2, .ref x2), (3, .ref x3), (4, .int x4)] [] σ (.inl (some (.int r.1)), r.2))  {x1 : Nat} {x2 : Nat} {x3 : Nat} {x4 : Int32} {σ : hb_M} {r : (Int32 × hb_M)} (h : f_L_law_b2690 G.2.2.2.2.1 G.2.2.2.2.2 k23 x1 x2 x3 x4 σ = some r) : hb_T G l true mL_law 83 (3 * n + 3) (18 * n + 18) 2690 [(0, .retAddr 0), (1, .ref x1), (2, .ref x2), (3, .ref x3), (4, .int x4)] [] σ (.inl (some (.int r.1)), r.2) := by
  unfold f_L_law_b2690 at h
  refine hs_aload_n dL_law_2690 1 rfl ?_
  refine hs_weak (rc' := 0 + 3 * n) (rs' := 0 + 18 * n) (by omega) (by omega) ?_
  obtain ⟨r1, h1, h⟩ := hb_bind h
  obtain ⟨h1, nf1, hb1⟩ := hb_on_at h1
  refine hs_callVl (μ' := mX8_digest) (mc := 0) (ms := 0) (rc := (3 * n)) (rs := (18 * n)) (As := []) (rest := []) (ci := 8) dL_law_2691 lmL_290 okX8_digest rfl (by decide) rfl (Nat.le_of_ble_eq_true rfl) rfl hb1 (c_X8_digest h1) ?_
  refine hs_aload_n dL_law_2694 2 rfl ?_
  refine hs_weak (rc' := 0 + 3 * n) (rs' := 0 + 18 * n) (by omega) (by omega) ?_
  obtain ⟨r2, h2, h⟩ := hb_bind h
  obtain ⟨h2, nf2, hb2⟩ := hb_on_at h2
  refine hs_callVl (μ' := mX9_digest) (mc := 0) (ms := 0) (rc := (3 * n)) (rs := (18 * n)) (As := []) (rest := [.long r1.1]) (ci := 9) dL_law_2695 lmL_294 okX9_digest rfl (by decide) rfl (Nat.le_of_ble_eq_true rfl) rfl hb2 (c_X9_digest h2) ?_
  refine hs_lcmp dL_law_2698 ?_
  refine hs_if_eq (tgt := 2704) dL_law_2699 (by decide) (fun hc3 => ?_) (fun hc3 => ?_)
  · rw [if_pos hc3] at h
    refine hs_sub (lv' := [(0, .retAddr 0), (1, .ref x1), (2, .ref x2), (3, .ref x3), (4, .int x4)]) [0, 1, 2, 3, 4] rfl ?_
    refine hs_weak (rc' := (3 * n)) (rs' := (18 * n)) (by omega) (by omega) ?_
    exact c_L_law_b2704 hl k23 hk23 h
  · rw [if_neg hc3] at h
    refine hs_iconst (v := (0 : Int32)) dL_law_2702 (by decide) ?_
    obtain rfl := Option.some.inj h
    exact hs_ireturn dL_law_2703 rfl (by decide) (fun h => by cases h)
set_option maxHeartbeats 4000000 in
set_option maxRecDepth 20000 in
theorem c_L_law_b2687 {G : hb_G} {l : Launch} (hl : l.stackTraces = false) {n : Nat}  (k23 : Nat → Nat → Nat → Int32 → hb_M → Option (Int32 × hb_M)) (hk23 : ∀ (x1 : Nat) (x2 : Nat) (x3 : Nat) (x4 : Int32) (σ : hb_M) (r : (Int32 × hb_M)), k23 x1 x2 x3 x4 σ = some r → hb_T G l true mL_law 83 (3 * n) (18 * n) 23 [(0, .retAddr 0), (1, .ref x1), (2, .ref x2), (3, .ref x3), (4, .int x4)] [] σ (.inl (some (.int r.1)), r.2))  {x1 : Nat} {x2 : Nat} {x3 : Nat} {x4 : Int32} {σ : hb_M} {r : (Int32 × hb_M)} (h : f_L_law_b2687 G.2.2.2.2.1 G.2.2.2.2.2 k23 x1 x2 x3 x4 σ = some r) : hb_T G l true mL_law 83 (3 * n) (18 * n) 2687 [(0, .retAddr 0), (1, .ref x1), (2, .ref x2), (3, .ref x3), (4, .int x4)] [] σ (.inl (some (.int r.1)), r.2) := by
  unfold f_L_law_b2687 at h
  refine hs_goto (tgt := 2704) dL_law_2687 (by decide) ?_
  refine hs_sub (lv' := [(0, .retAddr 0), (1, .ref x1), (2, .ref x2), (3, .ref x3), (4, .int x4)]) [0, 1, 2, 3, 4] rfl ?_
  refine hs_weak (rc' := (3 * n)) (rs' := (18 * n)) (by omega) (by omega) ?_
  exact c_L_law_b2704 hl k23 hk23 h
set_option maxHeartbeats 4000000 in
set_option maxRecDepth 20000 in
theorem c_L_law_b2646 {G : hb_G} {l : Launch} (hl : l.stackTraces = false) {n : Nat}  (k23 : Nat → Nat → Nat → Int32 → hb_M → Option (Int32 × hb_M)) (hk23 : ∀ (x1 : Nat) (x2 : Nat) (x3 : Nat) (x4 : Int32) (σ : hb_M) (r : (Int32 × hb_M)), k23 x1 x2 x3 x4 σ = some r → hb_T G l true mL_law 83 (3 * n) (18 * n) 23 [(0, .retAddr 0), (1, .ref x1), (2, .ref x2), (3, .ref x3), (4, .int x4)] [] σ (.inl (some (.int r.1)), r.2))  {x1 : Nat} {x2 : Nat} {x3 : Nat} {x4 : Int32} {σ : hb_M} {r : (Int32 × hb_M)} (h : f_L_law_b2646 G.2.2.2.2.1 G.2.2.2.2.2 k23 x1 x2 x3 x4 σ = some r) : hb_T G l true mL_law 83 (3 * n + 3) (18 * n + 18) 2646 [(0, .retAddr 0), (1, .ref x1), (2, .ref x2), (3, .ref x3), (4, .int x4)] [] σ (.inl (some (.int r.1)), r.2) := by
  unfold f_L_law_b2646 at h
  refine hs_aload_n dL_law_2646 1 rfl ?_
  refine hs_aload_n dL_law_2647 3 rfl ?_
  refine hs_weak (rc' := 1 + 3 * n) (rs' := 6 + 18 * n) (by omega) (by omega) ?_
  obtain ⟨r1, h1, h⟩ := hb_bind h
  refine hs_callSXi (μ' := mL_undo) (mc := 1) (ms := 6) (rc := (3 * n)) (rs := (18 * n)) (As := [.ref x1, .ref x3]) (rest := []) dL_law_2648 lmL_287 okL_undo rfl (by decide) rfl (Nat.le_of_ble_eq_true rfl) (c_L_undo hl h1) ?_
  refine hs_istore (lv' := [(5, .int r1.1), (0, .retAddr 0), (1, .ref x1), (2, .ref x2), (3, .ref x3), (4, .int x4)]) dL_law_2651 (by decide) rfl ?_
  refine hs_aload_n dL_law_2653 3 rfl ?_
  refine hs_weak (rc' := 0 + 3 * n) (rs' := 0 + 18 * n) (by omega) (by omega) ?_
  obtain ⟨r2, h2, h⟩ := hb_bind h
  obtain ⟨h2, nf2, hb2⟩ := hb_on_at h2
  refine hs_callVi (μ' := mX9_undo) (mc := 0) (ms := 0) (rc := (3 * n)) (rs := (18 * n)) (As := []) (rest := []) (ci := 9) dL_law_2654 lmL_289 okX9_undo rfl (by decide) rfl (Nat.le_of_ble_eq_true rfl) rfl hb2 (c_X9_undo h2) ?_
  refine hs_istore (lv' := [(6, .int r2.1), (5, .int r1.1), (0, .retAddr 0), (1, .ref x1), (2, .ref x2), (3, .ref x3), (4, .int x4)]) dL_law_2657 (by decide) rfl ?_
  refine hs_aload_n dL_law_2659 4 rfl ?_
  refine hs_weak (rc' := 0 + 3 * n) (rs' := 0 + 18 * n) (by omega) (by omega) ?_
  obtain ⟨r3, h3, h⟩ := hb_bind h
  obtain ⟨h3, nf3, hb3⟩ := hb_on_at h3
  refine hs_callVi (μ' := mX9_thrown) (mc := 0) (ms := 0) (rc := (3 * n)) (rs := (18 * n)) (As := []) (rest := []) (ci := 9) dL_law_2660 lmL_140 okX9_thrown rfl (by decide) rfl (Nat.le_of_ble_eq_true rfl) rfl hb3 (c_X9_thrown h3) ?_
  refine hs_iload dL_law_2663 1 rfl ?_
  refine hs_icmp_eq (tgt := 2670) dL_law_2665 (by decide) (fun hc4 => ?_) (fun hc4 => ?_)
  · rw [if_pos hc4] at h
    refine hs_iload dL_law_2670 1 rfl ?_
    refine hs_if_ne (tgt := 2687) dL_law_2672 (by decide) (fun hc5 => ?_) (fun hc5 => ?_)
    · rw [if_neg hc5] at h
      refine hs_sub (lv' := [(0, .retAddr 0), (1, .ref x1), (2, .ref x2), (3, .ref x3), (4, .int x4)]) [2, 3, 4, 5, 6] rfl ?_
      refine hs_weak (rc' := (3 * n)) (rs' := (18 * n)) (by omega) (by omega) ?_
      exact c_L_law_b2687 hl k23 hk23 h
    · rw [if_pos hc5] at h
      refine hs_aload_n dL_law_2675 5 rfl ?_
      refine hs_iconst (v := (0 : Int32)) dL_law_2676 (by decide) ?_
      obtain ⟨r6, h6, h⟩ := hb_bind h
      refine hs_lald dL_law_2677 h6 ?_
      refine hs_iload dL_law_2678 0 rfl ?_
      refine hs_i2l dL_law_2680 ?_
      refine hs_lcmp dL_law_2681 ?_
      refine hs_if_eq (tgt := 2687) dL_law_2682 (by decide) (fun hc7 => ?_) (fun hc7 => ?_)
      · rw [if_pos hc7] at h
        refine hs_sub (lv' := [(0, .retAddr 0), (1, .ref x1), (2, .ref x2), (3, .ref x3), (4, .int x4)]) [2, 3, 4, 5, 6] rfl ?_
        refine hs_weak (rc' := (3 * n)) (rs' := (18 * n)) (by omega) (by omega) ?_
        exact c_L_law_b2687 hl k23 hk23 h
      · rw [if_neg hc7] at h
        refine hs_iconst (v := (0 : Int32)) dL_law_2685 (by decide) ?_
        obtain rfl := Option.some.inj h
        exact hs_ireturn dL_law_2686 rfl (by decide) (fun h => by cases h)
  · rw [if_neg hc4] at h
    refine hs_iconst (v := (0 : Int32)) dL_law_2668 (by decide) ?_
    obtain rfl := Option.some.inj h
    exact hs_ireturn dL_law_2669 rfl (by decide) (fun h => by cases h)
set_option maxHeartbeats 4000000 in
set_option maxRecDepth 20000 in
theorem c_L_law_b2643 {G : hb_G} {l : Launch} (hl : l.stackTraces = false) {n : Nat}  (k23 : Nat → Nat → Nat → Int32 → hb_M → Option (Int32 × hb_M)) (hk23 : ∀ (x1 : Nat) (x2 : Nat) (x3 : Nat) (x4 : Int32) (σ : hb_M) (r : (Int32 × hb_M)), k23 x1 x2 x3 x4 σ = some r → hb_T G l true mL_law 83 (3 * n) (18 * n) 23 [(0, .retAddr 0), (1, .ref x1), (2, .ref x2), (3, .ref x3), (4, .int x4)] [] σ (.inl (some (.int r.1)), r.2))  {x1 : Nat} {x2 : Nat} {x3 : Nat} {x4 : Int32} {σ : hb_M} {r : (Int32 × hb_M)} (h : f_L_law_b2643 G.2.2.2.2.1 G.2.2.2.2.2 k23 x1 x2 x3 x4 σ = some r) : hb_T G l true mL_law 83 (3 * n) (18 * n) 2643 [(0, .retAddr 0), (1, .ref x1), (2, .ref x2), (3, .ref x3), (4, .int x4)] [] σ (.inl (some (.int r.1)), r.2) := by
  unfold f_L_law_b2643 at h
  refine hs_goto (tgt := 2704) dL_law_2643 (by decide) ?_
  refine hs_sub (lv' := [(0, .retAddr 0), (1, .ref x1), (2, .ref x2), (3, .ref x3), (4, .int x4)]) [0, 1, 2, 3, 4] rfl ?_
  refine hs_weak (rc' := (3 * n)) (rs' := (18 * n)) (by omega) (by omega) ?_
  exact c_L_law_b2704 hl k23 hk23 h
set_option maxHeartbeats 4000000 in
set_option maxRecDepth 20000 in
theorem c_L_law_b2578 {G : hb_G} {l : Launch} (hl : l.stackTraces = false) {n : Nat}  (k23 : Nat → Nat → Nat → Int32 → hb_M → Option (Int32 × hb_M)) (hk23 : ∀ (x1 : Nat) (x2 : Nat) (x3 : Nat) (x4 : Int32) (σ : hb_M) (r : (Int32 × hb_M)), k23 x1 x2 x3 x4 σ = some r → hb_T G l true mL_law 83 (3 * n) (18 * n) 23 [(0, .retAddr 0), (1, .ref x1), (2, .ref x2), (3, .ref x3), (4, .int x4)] [] σ (.inl (some (.int r.1)), r.2))  {x1 : Nat} {x2 : Nat} {x3 : Nat} {x4 : Int32} {σ : hb_M} {r : (Int32 × hb_M)} (h : f_L_law_b2578 G.2.2.2.2.1 G.2.2.2.2.2 k23 x1 x2 x3 x4 σ = some r) : hb_T G l true mL_law 83 (3 * n + 3) (18 * n + 18) 2578 [(0, .retAddr 0), (1, .ref x1), (2, .ref x2), (3, .ref x3), (4, .int x4)] [] σ (.inl (some (.int r.1)), r.2) := by
  unfold f_L_law_b2578 at h
  refine hs_aload_n dL_law_2578 1 rfl ?_
  refine hs_sload_n dL_law_2579 0 rfl ?_
  refine hs_iload dL_law_2580 4 rfl ?_
  refine hs_iconst (v := (1 : Int32)) dL_law_2582 (by decide) ?_
  refine hs_iadd dL_law_2583 ?_
  obtain ⟨r1, h1, h⟩ := hb_bind h
  refine hs_iald dL_law_2584 h1 ?_
  refine hs_sload_n dL_law_2585 0 rfl ?_
  refine hs_iload dL_law_2586 4 rfl ?_
  refine hs_iconst (v := (2 : Int32)) dL_law_2588 (by decide) ?_
  refine hs_iadd dL_law_2589 ?_
  obtain ⟨r2, h2, h⟩ := hb_bind h
  refine hs_iald dL_law_2590 h2 ?_
  refine hs_aload_n dL_law_2591 3 rfl ?_
  refine hs_weak (rc' := 2 + 3 * n) (rs' := 12 + 18 * n) (by omega) (by omega) ?_
  obtain ⟨r3, h3, h⟩ := hb_bind h
  refine hs_callSXi (μ' := mL_growth) (mc := 2) (ms := 12) (rc := (3 * n)) (rs := (18 * n)) (As := [.ref x1, .int r1, .int r2, .ref x3]) (rest := []) dL_law_2592 lmL_284 okL_growth rfl (by decide) rfl (Nat.le_of_ble_eq_true rfl) (c_L_growth hl h3) ?_
  refine hs_istore (lv' := [(5, .int r3.1), (0, .retAddr 0), (1, .ref x1), (2, .ref x2), (3, .ref x3), (4, .int x4)]) dL_law_2595 (by decide) rfl ?_
  refine hs_aload_n dL_law_2597 3 rfl ?_
  refine hs_sload_n dL_law_2598 1 rfl ?_
  refine hs_iload dL_law_2599 5 rfl ?_
  refine hs_iconst (v := (1 : Int32)) dL_law_2601 (by decide) ?_
  refine hs_iadd dL_law_2602 ?_
  obtain ⟨r4, h4, h⟩ := hb_bind h
  refine hs_iald dL_law_2603 h4 ?_
  refine hs_sload_n dL_law_2604 1 rfl ?_
  refine hs_iload dL_law_2605 5 rfl ?_
  refine hs_iconst (v := (2 : Int32)) dL_law_2607 (by decide) ?_
  refine hs_iadd dL_law_2608 ?_
  obtain ⟨r5, h5, h⟩ := hb_bind h
  refine hs_iald dL_law_2609 h5 ?_
  refine hs_weak (rc' := 0 + 3 * n) (rs' := 0 + 18 * n) (by omega) (by omega) ?_
  obtain ⟨r6, h6, h⟩ := hb_bind h
  obtain ⟨h6, nf6, hb6⟩ := hb_on_at h6
  refine hs_callVi (μ' := mX9_growth) (mc := 0) (ms := 0) (rc := (3 * n)) (rs := (18 * n)) (As := [.int r4, .int r5]) (rest := []) (ci := 9) dL_law_2610 lmL_286 okX9_growth rfl (by decide) rfl (Nat.le_of_ble_eq_true rfl) rfl hb6 (c_X9_growth h6) ?_
  refine hs_istore (lv' := [(6, .int r6.1), (5, .int r3.1), (0, .retAddr 0), (1, .ref x1), (2, .ref x2), (3, .ref x3), (4, .int x4)]) dL_law_2613 (by decide) rfl ?_
  refine hs_aload_n dL_law_2615 4 rfl ?_
  refine hs_weak (rc' := 0 + 3 * n) (rs' := 0 + 18 * n) (by omega) (by omega) ?_
  obtain ⟨r7, h7, h⟩ := hb_bind h
  obtain ⟨h7, nf7, hb7⟩ := hb_on_at h7
  refine hs_callVi (μ' := mX9_thrown) (mc := 0) (ms := 0) (rc := (3 * n)) (rs := (18 * n)) (As := []) (rest := []) (ci := 9) dL_law_2616 lmL_140 okX9_thrown rfl (by decide) rfl (Nat.le_of_ble_eq_true rfl) rfl hb7 (c_X9_thrown h7) ?_
  refine hs_iload dL_law_2619 1 rfl ?_
  refine hs_icmp_eq (tgt := 2626) dL_law_2621 (by decide) (fun hc8 => ?_) (fun hc8 => ?_)
  · rw [if_pos hc8] at h
    refine hs_iload dL_law_2626 1 rfl ?_
    refine hs_if_ne (tgt := 2643) dL_law_2628 (by decide) (fun hc9 => ?_) (fun hc9 => ?_)
    · rw [if_neg hc9] at h
      refine hs_sub (lv' := [(0, .retAddr 0), (1, .ref x1), (2, .ref x2), (3, .ref x3), (4, .int x4)]) [2, 3, 4, 5, 6] rfl ?_
      refine hs_weak (rc' := (3 * n)) (rs' := (18 * n)) (by omega) (by omega) ?_
      exact c_L_law_b2643 hl k23 hk23 h
    · rw [if_pos hc9] at h
      refine hs_aload_n dL_law_2631 5 rfl ?_
      refine hs_iconst (v := (0 : Int32)) dL_law_2632 (by decide) ?_
      obtain ⟨r10, h10, h⟩ := hb_bind h
      refine hs_lald dL_law_2633 h10 ?_
      refine hs_iload dL_law_2634 0 rfl ?_
      refine hs_i2l dL_law_2636 ?_
      refine hs_lcmp dL_law_2637 ?_
      refine hs_if_eq (tgt := 2643) dL_law_2638 (by decide) (fun hc11 => ?_) (fun hc11 => ?_)
      · rw [if_pos hc11] at h
        refine hs_sub (lv' := [(0, .retAddr 0), (1, .ref x1), (2, .ref x2), (3, .ref x3), (4, .int x4)]) [2, 3, 4, 5, 6] rfl ?_
        refine hs_weak (rc' := (3 * n)) (rs' := (18 * n)) (by omega) (by omega) ?_
        exact c_L_law_b2643 hl k23 hk23 h
      · rw [if_neg hc11] at h
        refine hs_iconst (v := (0 : Int32)) dL_law_2641 (by decide) ?_
        obtain rfl := Option.some.inj h
        exact hs_ireturn dL_law_2642 rfl (by decide) (fun h => by cases h)
  · rw [if_neg hc8] at h
    refine hs_iconst (v := (0 : Int32)) dL_law_2624 (by decide) ?_
    obtain rfl := Option.some.inj h
    exact hs_ireturn dL_law_2625 rfl (by decide) (fun h => by cases h)
set_option maxHeartbeats 4000000 in
set_option maxRecDepth 20000 in
theorem c_L_law_b2575 {G : hb_G} {l : Launch} (hl : l.stackTraces = false) {n : Nat}  (k23 : Nat → Nat → Nat → Int32 → hb_M → Option (Int32 × hb_M)) (hk23 : ∀ (x1 : Nat) (x2 : Nat) (x3 : Nat) (x4 : Int32) (σ : hb_M) (r : (Int32 × hb_M)), k23 x1 x2 x3 x4 σ = some r → hb_T G l true mL_law 83 (3 * n) (18 * n) 23 [(0, .retAddr 0), (1, .ref x1), (2, .ref x2), (3, .ref x3), (4, .int x4)] [] σ (.inl (some (.int r.1)), r.2))  {x1 : Nat} {x2 : Nat} {x3 : Nat} {x4 : Int32} {σ : hb_M} {r : (Int32 × hb_M)} (h : f_L_law_b2575 G.2.2.2.2.1 G.2.2.2.2.2 k23 x1 x2 x3 x4 σ = some r) : hb_T G l true mL_law 83 (3 * n) (18 * n) 2575 [(0, .retAddr 0), (1, .ref x1), (2, .ref x2), (3, .ref x3), (4, .int x4)] [] σ (.inl (some (.int r.1)), r.2) := by
  unfold f_L_law_b2575 at h
  refine hs_goto (tgt := 2704) dL_law_2575 (by decide) ?_
  refine hs_sub (lv' := [(0, .retAddr 0), (1, .ref x1), (2, .ref x2), (3, .ref x3), (4, .int x4)]) [0, 1, 2, 3, 4] rfl ?_
  refine hs_weak (rc' := (3 * n)) (rs' := (18 * n)) (by omega) (by omega) ?_
  exact c_L_law_b2704 hl k23 hk23 h
set_option maxHeartbeats 4000000 in
set_option maxRecDepth 20000 in
theorem c_L_law_b2510 {G : hb_G} {l : Launch} (hl : l.stackTraces = false) {n : Nat}  (k23 : Nat → Nat → Nat → Int32 → hb_M → Option (Int32 × hb_M)) (hk23 : ∀ (x1 : Nat) (x2 : Nat) (x3 : Nat) (x4 : Int32) (σ : hb_M) (r : (Int32 × hb_M)), k23 x1 x2 x3 x4 σ = some r → hb_T G l true mL_law 83 (3 * n) (18 * n) 23 [(0, .retAddr 0), (1, .ref x1), (2, .ref x2), (3, .ref x3), (4, .int x4)] [] σ (.inl (some (.int r.1)), r.2))  {x1 : Nat} {x2 : Nat} {x3 : Nat} {x4 : Int32} {σ : hb_M} {r : (Int32 × hb_M)} (h : f_L_law_b2510 G.2.2.2.2.1 G.2.2.2.2.2 k23 x1 x2 x3 x4 σ = some r) : hb_T G l true mL_law 83 (3 * n + 3) (18 * n + 18) 2510 [(0, .retAddr 0), (1, .ref x1), (2, .ref x2), (3, .ref x3), (4, .int x4)] [] σ (.inl (some (.int r.1)), r.2) := by
  unfold f_L_law_b2510 at h
  refine hs_aload_n dL_law_2510 1 rfl ?_
  refine hs_sload_n dL_law_2511 0 rfl ?_
  refine hs_iload dL_law_2512 4 rfl ?_
  refine hs_iconst (v := (1 : Int32)) dL_law_2514 (by decide) ?_
  refine hs_iadd dL_law_2515 ?_
  obtain ⟨r1, h1, h⟩ := hb_bind h
  refine hs_iald dL_law_2516 h1 ?_
  refine hs_sload_n dL_law_2517 0 rfl ?_
  refine hs_iload dL_law_2518 4 rfl ?_
  refine hs_iconst (v := (2 : Int32)) dL_law_2520 (by decide) ?_
  refine hs_iadd dL_law_2521 ?_
  obtain ⟨r2, h2, h⟩ := hb_bind h
  refine hs_iald dL_law_2522 h2 ?_
  refine hs_aload_n dL_law_2523 3 rfl ?_
  refine hs_weak (rc' := 2 + 3 * n) (rs' := 12 + 18 * n) (by omega) (by omega) ?_
  obtain ⟨r3, h3, h⟩ := hb_bind h
  refine hs_callSXi (μ' := mL_compare) (mc := 2) (ms := 12) (rc := (3 * n)) (rs := (18 * n)) (As := [.ref x1, .int r1, .int r2, .ref x3]) (rest := []) dL_law_2524 lmL_281 okL_compare rfl (by decide) rfl (Nat.le_of_ble_eq_true rfl) (c_L_compare hl h3) ?_
  refine hs_istore (lv' := [(5, .int r3.1), (0, .retAddr 0), (1, .ref x1), (2, .ref x2), (3, .ref x3), (4, .int x4)]) dL_law_2527 (by decide) rfl ?_
  refine hs_aload_n dL_law_2529 3 rfl ?_
  refine hs_sload_n dL_law_2530 1 rfl ?_
  refine hs_iload dL_law_2531 5 rfl ?_
  refine hs_iconst (v := (1 : Int32)) dL_law_2533 (by decide) ?_
  refine hs_iadd dL_law_2534 ?_
  obtain ⟨r4, h4, h⟩ := hb_bind h
  refine hs_iald dL_law_2535 h4 ?_
  refine hs_sload_n dL_law_2536 1 rfl ?_
  refine hs_iload dL_law_2537 5 rfl ?_
  refine hs_iconst (v := (2 : Int32)) dL_law_2539 (by decide) ?_
  refine hs_iadd dL_law_2540 ?_
  obtain ⟨r5, h5, h⟩ := hb_bind h
  refine hs_iald dL_law_2541 h5 ?_
  refine hs_weak (rc' := 0 + 3 * n) (rs' := 0 + 18 * n) (by omega) (by omega) ?_
  obtain ⟨r6, h6, h⟩ := hb_bind h
  obtain ⟨h6, nf6, hb6⟩ := hb_on_at h6
  refine hs_callVi (μ' := mX9_compare) (mc := 0) (ms := 0) (rc := (3 * n)) (rs := (18 * n)) (As := [.int r4, .int r5]) (rest := []) (ci := 9) dL_law_2542 lmL_283 okX9_compare rfl (by decide) rfl (Nat.le_of_ble_eq_true rfl) rfl hb6 (c_X9_compare h6) ?_
  refine hs_istore (lv' := [(6, .int r6.1), (5, .int r3.1), (0, .retAddr 0), (1, .ref x1), (2, .ref x2), (3, .ref x3), (4, .int x4)]) dL_law_2545 (by decide) rfl ?_
  refine hs_aload_n dL_law_2547 4 rfl ?_
  refine hs_weak (rc' := 0 + 3 * n) (rs' := 0 + 18 * n) (by omega) (by omega) ?_
  obtain ⟨r7, h7, h⟩ := hb_bind h
  obtain ⟨h7, nf7, hb7⟩ := hb_on_at h7
  refine hs_callVi (μ' := mX9_thrown) (mc := 0) (ms := 0) (rc := (3 * n)) (rs := (18 * n)) (As := []) (rest := []) (ci := 9) dL_law_2548 lmL_140 okX9_thrown rfl (by decide) rfl (Nat.le_of_ble_eq_true rfl) rfl hb7 (c_X9_thrown h7) ?_
  refine hs_iload dL_law_2551 1 rfl ?_
  refine hs_icmp_eq (tgt := 2558) dL_law_2553 (by decide) (fun hc8 => ?_) (fun hc8 => ?_)
  · rw [if_pos hc8] at h
    refine hs_iload dL_law_2558 1 rfl ?_
    refine hs_if_ne (tgt := 2575) dL_law_2560 (by decide) (fun hc9 => ?_) (fun hc9 => ?_)
    · rw [if_neg hc9] at h
      refine hs_sub (lv' := [(0, .retAddr 0), (1, .ref x1), (2, .ref x2), (3, .ref x3), (4, .int x4)]) [2, 3, 4, 5, 6] rfl ?_
      refine hs_weak (rc' := (3 * n)) (rs' := (18 * n)) (by omega) (by omega) ?_
      exact c_L_law_b2575 hl k23 hk23 h
    · rw [if_pos hc9] at h
      refine hs_aload_n dL_law_2563 5 rfl ?_
      refine hs_iconst (v := (0 : Int32)) dL_law_2564 (by decide) ?_
      obtain ⟨r10, h10, h⟩ := hb_bind h
      refine hs_lald dL_law_2565 h10 ?_
      refine hs_iload dL_law_2566 0 rfl ?_
      refine hs_i2l dL_law_2568 ?_
      refine hs_lcmp dL_law_2569 ?_
      refine hs_if_eq (tgt := 2575) dL_law_2570 (by decide) (fun hc11 => ?_) (fun hc11 => ?_)
      · rw [if_pos hc11] at h
        refine hs_sub (lv' := [(0, .retAddr 0), (1, .ref x1), (2, .ref x2), (3, .ref x3), (4, .int x4)]) [2, 3, 4, 5, 6] rfl ?_
        refine hs_weak (rc' := (3 * n)) (rs' := (18 * n)) (by omega) (by omega) ?_
        exact c_L_law_b2575 hl k23 hk23 h
      · rw [if_neg hc11] at h
        refine hs_iconst (v := (0 : Int32)) dL_law_2573 (by decide) ?_
        obtain rfl := Option.some.inj h
        exact hs_ireturn dL_law_2574 rfl (by decide) (fun h => by cases h)
  · rw [if_neg hc8] at h
    refine hs_iconst (v := (0 : Int32)) dL_law_2556 (by decide) ?_
    obtain rfl := Option.some.inj h
    exact hs_ireturn dL_law_2557 rfl (by decide) (fun h => by cases h)
set_option maxHeartbeats 4000000 in
set_option maxRecDepth 20000 in
theorem c_L_law_b2507 {G : hb_G} {l : Launch} (hl : l.stackTraces = false) {n : Nat}  (k23 : Nat → Nat → Nat → Int32 → hb_M → Option (Int32 × hb_M)) (hk23 : ∀ (x1 : Nat) (x2 : Nat) (x3 : Nat) (x4 : Int32) (σ : hb_M) (r : (Int32 × hb_M)), k23 x1 x2 x3 x4 σ = some r → hb_T G l true mL_law 83 (3 * n) (18 * n) 23 [(0, .retAddr 0), (1, .ref x1), (2, .ref x2), (3, .ref x3), (4, .int x4)] [] σ (.inl (some (.int r.1)), r.2))  {x1 : Nat} {x2 : Nat} {x3 : Nat} {x4 : Int32} {σ : hb_M} {r : (Int32 × hb_M)} (h : f_L_law_b2507 G.2.2.2.2.1 G.2.2.2.2.2 k23 x1 x2 x3 x4 σ = some r) : hb_T G l true mL_law 83 (3 * n) (18 * n) 2507 [(0, .retAddr 0), (1, .ref x1), (2, .ref x2), (3, .ref x3), (4, .int x4)] [] σ (.inl (some (.int r.1)), r.2) := by
  unfold f_L_law_b2507 at h
  refine hs_goto (tgt := 2704) dL_law_2507 (by decide) ?_
  refine hs_sub (lv' := [(0, .retAddr 0), (1, .ref x1), (2, .ref x2), (3, .ref x3), (4, .int x4)]) [0, 1, 2, 3, 4] rfl ?_
  refine hs_weak (rc' := (3 * n)) (rs' := (18 * n)) (by omega) (by omega) ?_
  exact c_L_law_b2704 hl k23 hk23 h
set_option maxHeartbeats 4000000 in
set_option maxRecDepth 20000 in
theorem c_L_law_b2454 {G : hb_G} {l : Launch} (hl : l.stackTraces = false) {n : Nat}  (k23 : Nat → Nat → Nat → Int32 → hb_M → Option (Int32 × hb_M)) (hk23 : ∀ (x1 : Nat) (x2 : Nat) (x3 : Nat) (x4 : Int32) (σ : hb_M) (r : (Int32 × hb_M)), k23 x1 x2 x3 x4 σ = some r → hb_T G l true mL_law 83 (3 * n) (18 * n) 23 [(0, .retAddr 0), (1, .ref x1), (2, .ref x2), (3, .ref x3), (4, .int x4)] [] σ (.inl (some (.int r.1)), r.2))  {x1 : Nat} {x2 : Nat} {x3 : Nat} {x4 : Int32} {σ : hb_M} {r : (Int32 × hb_M)} (h : f_L_law_b2454 G.2.2.2.2.1 G.2.2.2.2.2 k23 x1 x2 x3 x4 σ = some r) : hb_T G l true mL_law 83 (3 * n + 3) (18 * n + 18) 2454 [(0, .retAddr 0), (1, .ref x1), (2, .ref x2), (3, .ref x3), (4, .int x4)] [] σ (.inl (some (.int r.1)), r.2) := by
  unfold f_L_law_b2454 at h
  refine hs_aload_n dL_law_2454 1 rfl ?_
  refine hs_sload_n dL_law_2455 0 rfl ?_
  refine hs_iload dL_law_2456 4 rfl ?_
  refine hs_iconst (v := (1 : Int32)) dL_law_2458 (by decide) ?_
  refine hs_iadd dL_law_2459 ?_
  obtain ⟨r1, h1, h⟩ := hb_bind h
  refine hs_iald dL_law_2460 h1 ?_
  refine hs_aload_n dL_law_2461 3 rfl ?_
  refine hs_weak (rc' := 1 + 3 * n) (rs' := 6 + 18 * n) (by omega) (by omega) ?_
  obtain ⟨r2, h2, h⟩ := hb_bind h
  refine hs_callSXi (μ' := mL_take) (mc := 1) (ms := 6) (rc := (3 * n)) (rs := (18 * n)) (As := [.ref x1, .int r1, .ref x3]) (rest := []) dL_law_2462 lmL_278 okL_take rfl (by decide) rfl (Nat.le_of_ble_eq_true rfl) (c_L_take hl h2) ?_
  refine hs_istore (lv' := [(5, .int r2.1), (0, .retAddr 0), (1, .ref x1), (2, .ref x2), (3, .ref x3), (4, .int x4)]) dL_law_2465 (by decide) rfl ?_
  refine hs_aload_n dL_law_2467 3 rfl ?_
  refine hs_sload_n dL_law_2468 1 rfl ?_
  refine hs_iload dL_law_2469 5 rfl ?_
  refine hs_iconst (v := (1 : Int32)) dL_law_2471 (by decide) ?_
  refine hs_iadd dL_law_2472 ?_
  obtain ⟨r3, h3, h⟩ := hb_bind h
  refine hs_iald dL_law_2473 h3 ?_
  refine hs_weak (rc' := 0 + 3 * n) (rs' := 0 + 18 * n) (by omega) (by omega) ?_
  obtain ⟨r4, h4, h⟩ := hb_bind h
  obtain ⟨h4, nf4, hb4⟩ := hb_on_at h4
  refine hs_callVi (μ' := mX9_take) (mc := 0) (ms := 0) (rc := (3 * n)) (rs := (18 * n)) (As := [.int r3]) (rest := []) (ci := 9) dL_law_2474 lmL_280 okX9_take rfl (by decide) rfl (Nat.le_of_ble_eq_true rfl) rfl hb4 (c_X9_take h4) ?_
  refine hs_istore (lv' := [(6, .int r4.1), (5, .int r2.1), (0, .retAddr 0), (1, .ref x1), (2, .ref x2), (3, .ref x3), (4, .int x4)]) dL_law_2477 (by decide) rfl ?_
  refine hs_aload_n dL_law_2479 4 rfl ?_
  refine hs_weak (rc' := 0 + 3 * n) (rs' := 0 + 18 * n) (by omega) (by omega) ?_
  obtain ⟨r5, h5, h⟩ := hb_bind h
  obtain ⟨h5, nf5, hb5⟩ := hb_on_at h5
  refine hs_callVi (μ' := mX9_thrown) (mc := 0) (ms := 0) (rc := (3 * n)) (rs := (18 * n)) (As := []) (rest := []) (ci := 9) dL_law_2480 lmL_140 okX9_thrown rfl (by decide) rfl (Nat.le_of_ble_eq_true rfl) rfl hb5 (c_X9_thrown h5) ?_
  refine hs_iload dL_law_2483 1 rfl ?_
  refine hs_icmp_eq (tgt := 2490) dL_law_2485 (by decide) (fun hc6 => ?_) (fun hc6 => ?_)
  · rw [if_pos hc6] at h
    refine hs_iload dL_law_2490 1 rfl ?_
    refine hs_if_ne (tgt := 2507) dL_law_2492 (by decide) (fun hc7 => ?_) (fun hc7 => ?_)
    · rw [if_neg hc7] at h
      refine hs_sub (lv' := [(0, .retAddr 0), (1, .ref x1), (2, .ref x2), (3, .ref x3), (4, .int x4)]) [2, 3, 4, 5, 6] rfl ?_
      refine hs_weak (rc' := (3 * n)) (rs' := (18 * n)) (by omega) (by omega) ?_
      exact c_L_law_b2507 hl k23 hk23 h
    · rw [if_pos hc7] at h
      refine hs_aload_n dL_law_2495 5 rfl ?_
      refine hs_iconst (v := (0 : Int32)) dL_law_2496 (by decide) ?_
      obtain ⟨r8, h8, h⟩ := hb_bind h
      refine hs_lald dL_law_2497 h8 ?_
      refine hs_iload dL_law_2498 0 rfl ?_
      refine hs_i2l dL_law_2500 ?_
      refine hs_lcmp dL_law_2501 ?_
      refine hs_if_eq (tgt := 2507) dL_law_2502 (by decide) (fun hc9 => ?_) (fun hc9 => ?_)
      · rw [if_pos hc9] at h
        refine hs_sub (lv' := [(0, .retAddr 0), (1, .ref x1), (2, .ref x2), (3, .ref x3), (4, .int x4)]) [2, 3, 4, 5, 6] rfl ?_
        refine hs_weak (rc' := (3 * n)) (rs' := (18 * n)) (by omega) (by omega) ?_
        exact c_L_law_b2507 hl k23 hk23 h
      · rw [if_neg hc9] at h
        refine hs_iconst (v := (0 : Int32)) dL_law_2505 (by decide) ?_
        obtain rfl := Option.some.inj h
        exact hs_ireturn dL_law_2506 rfl (by decide) (fun h => by cases h)
  · rw [if_neg hc6] at h
    refine hs_iconst (v := (0 : Int32)) dL_law_2488 (by decide) ?_
    obtain rfl := Option.some.inj h
    exact hs_ireturn dL_law_2489 rfl (by decide) (fun h => by cases h)
set_option maxHeartbeats 4000000 in
set_option maxRecDepth 20000 in
theorem c_L_law_b2441 {G : hb_G} {l : Launch} (hl : l.stackTraces = false) {n : Nat}  (k23 : Nat → Nat → Nat → Int32 → hb_M → Option (Int32 × hb_M)) (hk23 : ∀ (x1 : Nat) (x2 : Nat) (x3 : Nat) (x4 : Int32) (σ : hb_M) (r : (Int32 × hb_M)), k23 x1 x2 x3 x4 σ = some r → hb_T G l true mL_law 83 (3 * n) (18 * n) 23 [(0, .retAddr 0), (1, .ref x1), (2, .ref x2), (3, .ref x3), (4, .int x4)] [] σ (.inl (some (.int r.1)), r.2))  {x1 : Nat} {x2 : Nat} {x3 : Nat} {x4 : Int32} {σ : hb_M} {r : (Int32 × hb_M)} (h : f_L_law_b2441 G.2.2.2.2.1 G.2.2.2.2.2 k23 x1 x2 x3 x4 σ = some r) : hb_T G l true mL_law 83 (3 * n + 3) (18 * n + 18) 2441 [(0, .retAddr 0), (1, .ref x1), (2, .ref x2), (3, .ref x3), (4, .int x4)] [] σ (.inl (some (.int r.1)), r.2) := by
  unfold f_L_law_b2441 at h
  refine hs_aload_n dL_law_2441 1 rfl ?_
  refine hs_weak (rc' := 0 + 3 * n) (rs' := 0 + 18 * n) (by omega) (by omega) ?_
  obtain ⟨r1, h1, h⟩ := hb_bind h
  obtain ⟨h1, nf1, hb1⟩ := hb_on_at h1
  refine hs_callVi (μ' := mX8_execute) (mc := 0) (ms := 0) (rc := (3 * n)) (rs := (18 * n)) (As := []) (rest := []) (ci := 8) dL_law_2442 lmL_274 okX8_execute rfl (by decide) rfl (Nat.le_of_ble_eq_true rfl) rfl hb1 (c_X8_execute h1) ?_
  refine hs_aload_n dL_law_2445 2 rfl ?_
  refine hs_weak (rc' := 0 + 3 * n) (rs' := 0 + 18 * n) (by omega) (by omega) ?_
  obtain ⟨r2, h2, h⟩ := hb_bind h
  obtain ⟨h2, nf2, hb2⟩ := hb_on_at h2
  refine hs_callVi (μ' := mX9_execute) (mc := 0) (ms := 0) (rc := (3 * n)) (rs := (18 * n)) (As := []) (rest := [.int r1.1]) (ci := 9) dL_law_2446 lmL_277 okX9_execute rfl (by decide) rfl (Nat.le_of_ble_eq_true rfl) rfl hb2 (c_X9_execute h2) ?_
  refine hs_icmp_eq (tgt := 2704) dL_law_2449 (by decide) (fun hc3 => ?_) (fun hc3 => ?_)
  · rw [if_pos hc3] at h
    refine hs_sub (lv' := [(0, .retAddr 0), (1, .ref x1), (2, .ref x2), (3, .ref x3), (4, .int x4)]) [0, 1, 2, 3, 4] rfl ?_
    refine hs_weak (rc' := (3 * n)) (rs' := (18 * n)) (by omega) (by omega) ?_
    exact c_L_law_b2704 hl k23 hk23 h
  · rw [if_neg hc3] at h
    refine hs_iconst (v := (0 : Int32)) dL_law_2452 (by decide) ?_
    obtain rfl := Option.some.inj h
    exact hs_ireturn dL_law_2453 rfl (by decide) (fun h => by cases h)
set_option maxHeartbeats 4000000 in
set_option maxRecDepth 20000 in
theorem c_L_law_b2433 {G : hb_G} {l : Launch} (hl : l.stackTraces = false) {n : Nat}  (k23 : Nat → Nat → Nat → Int32 → hb_M → Option (Int32 × hb_M)) (hk23 : ∀ (x1 : Nat) (x2 : Nat) (x3 : Nat) (x4 : Int32) (σ : hb_M) (r : (Int32 × hb_M)), k23 x1 x2 x3 x4 σ = some r → hb_T G l true mL_law 83 (3 * n) (18 * n) 23 [(0, .retAddr 0), (1, .ref x1), (2, .ref x2), (3, .ref x3), (4, .int x4)] [] σ (.inl (some (.int r.1)), r.2))  {x1 : Nat} {x2 : Nat} {x3 : Nat} {x4 : Int32} {s0 : Int32} {s1 : Nat} {s2 : Int32} {σ : hb_M} {r : (Int32 × hb_M)} (h : f_L_law_b2433 G.2.2.2.2.1 G.2.2.2.2.2 k23 x1 x2 x3 x4 s0 s1 s2 σ = some r) : hb_T G l true mL_law 83 (3 * n) (18 * n) 2433 [(0, .retAddr 0), (1, .ref x1), (2, .ref x2), (3, .ref x3), (4, .int x4)] [.int s2, .ref s1, .int s0] σ (.inl (some (.int r.1)), r.2) := by
  unfold f_L_law_b2433 at h
  refine hs_weak (rc' := 0 + 3 * n) (rs' := 0 + 18 * n) (by omega) (by omega) ?_
  obtain ⟨r1, h1, h⟩ := hb_bind h
  obtain ⟨h1, nf1, hb1⟩ := hb_on_at h1
  refine hs_callVi (μ' := mX9_matchSize) (mc := 0) (ms := 0) (rc := (3 * n)) (rs := (18 * n)) (As := [.int s2]) (rest := [.int s0]) (ci := 9) dL_law_2433 lmL_273 okX9_matchSize rfl (by decide) rfl (Nat.le_of_ble_eq_true rfl) rfl hb1 (c_X9_matchSize h1) ?_
  refine hs_icmp_eq (tgt := 2704) dL_law_2436 (by decide) (fun hc2 => ?_) (fun hc2 => ?_)
  · rw [if_pos hc2] at h
    refine hs_sub (lv' := [(0, .retAddr 0), (1, .ref x1), (2, .ref x2), (3, .ref x3), (4, .int x4)]) [0, 1, 2, 3, 4] rfl ?_
    refine hs_weak (rc' := (3 * n)) (rs' := (18 * n)) (by omega) (by omega) ?_
    exact c_L_law_b2704 hl k23 hk23 h
  · rw [if_neg hc2] at h
    refine hs_iconst (v := (0 : Int32)) dL_law_2439 (by decide) ?_
    obtain rfl := Option.some.inj h
    exact hs_ireturn dL_law_2440 rfl (by decide) (fun h => by cases h)
set_option maxHeartbeats 4000000 in
set_option maxRecDepth 20000 in
theorem c_L_law_b2415 {G : hb_G} {l : Launch} (hl : l.stackTraces = false) {n : Nat}  (k23 : Nat → Nat → Nat → Int32 → hb_M → Option (Int32 × hb_M)) (hk23 : ∀ (x1 : Nat) (x2 : Nat) (x3 : Nat) (x4 : Int32) (σ : hb_M) (r : (Int32 × hb_M)), k23 x1 x2 x3 x4 σ = some r → hb_T G l true mL_law 83 (3 * n) (18 * n) 23 [(0, .retAddr 0), (1, .ref x1), (2, .ref x2), (3, .ref x3), (4, .int x4)] [] σ (.inl (some (.int r.1)), r.2))  {x1 : Nat} {x2 : Nat} {x3 : Nat} {x4 : Int32} {s0 : Nat} {s1 : Int32} {σ : hb_M} {r : (Int32 × hb_M)} (h : f_L_law_b2415 G.2.2.2.2.1 G.2.2.2.2.2 k23 x1 x2 x3 x4 s0 s1 σ = some r) : hb_T G l true mL_law 83 (3 * n) (18 * n) 2415 [(0, .retAddr 0), (1, .ref x1), (2, .ref x2), (3, .ref x3), (4, .int x4)] [.int s1, .ref s0] σ (.inl (some (.int r.1)), r.2) := by
  unfold f_L_law_b2415 at h
  refine hs_weak (rc' := 0 + 3 * n) (rs' := 0 + 18 * n) (by omega) (by omega) ?_
  obtain ⟨r1, h1, h⟩ := hb_bind h
  obtain ⟨h1, nf1, hb1⟩ := hb_on_at h1
  refine hs_callVi (μ' := mX8_matchSize) (mc := 0) (ms := 0) (rc := (3 * n)) (rs := (18 * n)) (As := [.int s1]) (rest := []) (ci := 8) dL_law_2415 lmL_269 okX8_matchSize rfl (by decide) rfl (Nat.le_of_ble_eq_true rfl) rfl hb1 (c_X8_matchSize h1) ?_
  refine hs_aload_n dL_law_2418 2 rfl ?_
  refine hs_sload_n dL_law_2419 0 rfl ?_
  refine hs_iload dL_law_2420 4 rfl ?_
  refine hs_iconst (v := (1 : Int32)) dL_law_2422 (by decide) ?_
  refine hs_iadd dL_law_2423 ?_
  obtain ⟨r2, h2, h⟩ := hb_bind h
  refine hs_iald dL_law_2424 h2 ?_
  refine hs_if_eq (tgt := 2432) dL_law_2425 (by decide) (fun hc3 => ?_) (fun hc3 => ?_)
  · rw [if_pos hc3] at h
    refine hs_iconst (v := (0 : Int32)) dL_law_2432 (by decide) ?_
    refine hs_sub (lv' := [(0, .retAddr 0), (1, .ref x1), (2, .ref x2), (3, .ref x3), (4, .int x4)]) [0, 1, 2, 3, 4] rfl ?_
    refine hs_weak (rc' := (3 * n)) (rs' := (18 * n)) (by omega) (by omega) ?_
    exact c_L_law_b2433 hl k23 hk23 h
  · rw [if_neg hc3] at h
    refine hs_iconst (v := (1 : Int32)) dL_law_2428 (by decide) ?_
    refine hs_goto (tgt := 2433) dL_law_2429 (by decide) ?_
    refine hs_sub (lv' := [(0, .retAddr 0), (1, .ref x1), (2, .ref x2), (3, .ref x3), (4, .int x4)]) [0, 1, 2, 3, 4] rfl ?_
    refine hs_weak (rc' := (3 * n)) (rs' := (18 * n)) (by omega) (by omega) ?_
    exact c_L_law_b2433 hl k23 hk23 h
set_option maxHeartbeats 4000000 in
set_option maxRecDepth 20000 in
theorem c_L_law_b2400 {G : hb_G} {l : Launch} (hl : l.stackTraces = false) {n : Nat}  (k23 : Nat → Nat → Nat → Int32 → hb_M → Option (Int32 × hb_M)) (hk23 : ∀ (x1 : Nat) (x2 : Nat) (x3 : Nat) (x4 : Int32) (σ : hb_M) (r : (Int32 × hb_M)), k23 x1 x2 x3 x4 σ = some r → hb_T G l true mL_law 83 (3 * n) (18 * n) 23 [(0, .retAddr 0), (1, .ref x1), (2, .ref x2), (3, .ref x3), (4, .int x4)] [] σ (.inl (some (.int r.1)), r.2))  {x1 : Nat} {x2 : Nat} {x3 : Nat} {x4 : Int32} {σ : hb_M} {r : (Int32 × hb_M)} (h : f_L_law_b2400 G.2.2.2.2.1 G.2.2.2.2.2 k23 x1 x2 x3 x4 σ = some r) : hb_T G l true mL_law 83 (3 * n + 3) (18 * n + 18) 2400 [(0, .retAddr 0), (1, .ref x1), (2, .ref x2), (3, .ref x3), (4, .int x4)] [] σ (.inl (some (.int r.1)), r.2) := by
  unfold f_L_law_b2400 at h
  refine hs_aload_n dL_law_2400 1 rfl ?_
  refine hs_sload_n dL_law_2401 0 rfl ?_
  refine hs_iload dL_law_2402 4 rfl ?_
  refine hs_iconst (v := (1 : Int32)) dL_law_2404 (by decide) ?_
  refine hs_iadd dL_law_2405 ?_
  obtain ⟨r1, h1, h⟩ := hb_bind h
  refine hs_iald dL_law_2406 h1 ?_
  refine hs_if_eq (tgt := 2414) dL_law_2407 (by decide) (fun hc2 => ?_) (fun hc2 => ?_)
  · rw [if_pos hc2] at h
    refine hs_iconst (v := (0 : Int32)) dL_law_2414 (by decide) ?_
    refine hs_sub (lv' := [(0, .retAddr 0), (1, .ref x1), (2, .ref x2), (3, .ref x3), (4, .int x4)]) [0, 1, 2, 3, 4] rfl ?_
    refine hs_weak (rc' := (3 * n)) (rs' := (18 * n)) (by omega) (by omega) ?_
    exact c_L_law_b2415 hl k23 hk23 h
  · rw [if_neg hc2] at h
    refine hs_iconst (v := (1 : Int32)) dL_law_2410 (by decide) ?_
    refine hs_goto (tgt := 2415) dL_law_2411 (by decide) ?_
    refine hs_sub (lv' := [(0, .retAddr 0), (1, .ref x1), (2, .ref x2), (3, .ref x3), (4, .int x4)]) [0, 1, 2, 3, 4] rfl ?_
    refine hs_weak (rc' := (3 * n)) (rs' := (18 * n)) (by omega) (by omega) ?_
    exact c_L_law_b2415 hl k23 hk23 h
set_option maxHeartbeats 4000000 in
set_option maxRecDepth 20000 in
theorem c_L_law_b2375 {G : hb_G} {l : Launch} (hl : l.stackTraces = false) {n : Nat}  (k23 : Nat → Nat → Nat → Int32 → hb_M → Option (Int32 × hb_M)) (hk23 : ∀ (x1 : Nat) (x2 : Nat) (x3 : Nat) (x4 : Int32) (σ : hb_M) (r : (Int32 × hb_M)), k23 x1 x2 x3 x4 σ = some r → hb_T G l true mL_law 83 (3 * n) (18 * n) 23 [(0, .retAddr 0), (1, .ref x1), (2, .ref x2), (3, .ref x3), (4, .int x4)] [] σ (.inl (some (.int r.1)), r.2))  {x1 : Nat} {x2 : Nat} {x3 : Nat} {x4 : Int32} {σ : hb_M} {r : (Int32 × hb_M)} (h : f_L_law_b2375 G.2.2.2.2.1 G.2.2.2.2.2 k23 x1 x2 x3 x4 σ = some r) : hb_T G l true mL_law 83 (3 * n + 3) (18 * n + 18) 2375 [(0, .retAddr 0), (1, .ref x1), (2, .ref x2), (3, .ref x3), (4, .int x4)] [] σ (.inl (some (.int r.1)), r.2) := by
  unfold f_L_law_b2375 at h
  refine hs_aload_n dL_law_2375 1 rfl ?_
  refine hs_sload_n dL_law_2376 0 rfl ?_
  refine hs_iload dL_law_2377 4 rfl ?_
  refine hs_iconst (v := (1 : Int32)) dL_law_2379 (by decide) ?_
  refine hs_iadd dL_law_2380 ?_
  obtain ⟨r1, h1, h⟩ := hb_bind h
  refine hs_iald dL_law_2381 h1 ?_
  refine hs_weak (rc' := 0 + 3 * n) (rs' := 0 + 18 * n) (by omega) (by omega) ?_
  obtain ⟨r2, h2, h⟩ := hb_bind h
  obtain ⟨h2, nf2, hb2⟩ := hb_on_at h2
  refine hs_callVi (μ' := mX8_matchAt) (mc := 0) (ms := 0) (rc := (3 * n)) (rs := (18 * n)) (As := [.int r1]) (rest := []) (ci := 8) dL_law_2382 lmL_265 okX8_matchAt rfl (by decide) rfl (Nat.le_of_ble_eq_true rfl) rfl hb2 (c_X8_matchAt h2) ?_
  refine hs_aload_n dL_law_2385 2 rfl ?_
  refine hs_sload_n dL_law_2386 0 rfl ?_
  refine hs_iload dL_law_2387 4 rfl ?_
  refine hs_iconst (v := (1 : Int32)) dL_law_2389 (by decide) ?_
  refine hs_iadd dL_law_2390 ?_
  obtain ⟨r3, h3, h⟩ := hb_bind h
  refine hs_iald dL_law_2391 h3 ?_
  refine hs_weak (rc' := 0 + 3 * n) (rs' := 0 + 18 * n) (by omega) (by omega) ?_
  obtain ⟨r4, h4, h⟩ := hb_bind h
  obtain ⟨h4, nf4, hb4⟩ := hb_on_at h4
  refine hs_callVi (μ' := mX9_matchAt) (mc := 0) (ms := 0) (rc := (3 * n)) (rs := (18 * n)) (As := [.int r3]) (rest := [.int r2.1]) (ci := 9) dL_law_2392 lmL_268 okX9_matchAt rfl (by decide) rfl (Nat.le_of_ble_eq_true rfl) rfl hb4 (c_X9_matchAt h4) ?_
  refine hs_icmp_eq (tgt := 2704) dL_law_2395 (by decide) (fun hc5 => ?_) (fun hc5 => ?_)
  · rw [if_pos hc5] at h
    refine hs_sub (lv' := [(0, .retAddr 0), (1, .ref x1), (2, .ref x2), (3, .ref x3), (4, .int x4)]) [0, 1, 2, 3, 4] rfl ?_
    refine hs_weak (rc' := (3 * n)) (rs' := (18 * n)) (by omega) (by omega) ?_
    exact c_L_law_b2704 hl k23 hk23 h
  · rw [if_neg hc5] at h
    refine hs_iconst (v := (0 : Int32)) dL_law_2398 (by decide) ?_
    obtain rfl := Option.some.inj h
    exact hs_ireturn dL_law_2399 rfl (by decide) (fun h => by cases h)
set_option maxHeartbeats 4000000 in
set_option maxRecDepth 20000 in
theorem c_L_law_b2362 {G : hb_G} {l : Launch} (hl : l.stackTraces = false) {n : Nat}  (k23 : Nat → Nat → Nat → Int32 → hb_M → Option (Int32 × hb_M)) (hk23 : ∀ (x1 : Nat) (x2 : Nat) (x3 : Nat) (x4 : Int32) (σ : hb_M) (r : (Int32 × hb_M)), k23 x1 x2 x3 x4 σ = some r → hb_T G l true mL_law 83 (3 * n) (18 * n) 23 [(0, .retAddr 0), (1, .ref x1), (2, .ref x2), (3, .ref x3), (4, .int x4)] [] σ (.inl (some (.int r.1)), r.2))  {x1 : Nat} {x2 : Nat} {x3 : Nat} {x4 : Int32} {σ : hb_M} {r : (Int32 × hb_M)} (h : f_L_law_b2362 G.2.2.2.2.1 G.2.2.2.2.2 k23 x1 x2 x3 x4 σ = some r) : hb_T G l true mL_law 83 (3 * n + 3) (18 * n + 18) 2362 [(0, .retAddr 0), (1, .ref x1), (2, .ref x2), (3, .ref x3), (4, .int x4)] [] σ (.inl (some (.int r.1)), r.2) := by
  unfold f_L_law_b2362 at h
  refine hs_aload_n dL_law_2362 1 rfl ?_
  refine hs_weak (rc' := 0 + 3 * n) (rs' := 0 + 18 * n) (by omega) (by omega) ?_
  obtain ⟨r1, h1, h⟩ := hb_bind h
  obtain ⟨h1, nf1, hb1⟩ := hb_on_at h1
  refine hs_callVi (μ' := mX8_matches) (mc := 0) (ms := 0) (rc := (3 * n)) (rs := (18 * n)) (As := []) (rest := []) (ci := 8) dL_law_2363 lmL_261 okX8_matches rfl (by decide) rfl (Nat.le_of_ble_eq_true rfl) rfl hb1 (c_X8_matches h1) ?_
  refine hs_aload_n dL_law_2366 2 rfl ?_
  refine hs_weak (rc' := 0 + 3 * n) (rs' := 0 + 18 * n) (by omega) (by omega) ?_
  obtain ⟨r2, h2, h⟩ := hb_bind h
  obtain ⟨h2, nf2, hb2⟩ := hb_on_at h2
  refine hs_callVi (μ' := mX9_matches) (mc := 0) (ms := 0) (rc := (3 * n)) (rs := (18 * n)) (As := []) (rest := [.int r1.1]) (ci := 9) dL_law_2367 lmL_264 okX9_matches rfl (by decide) rfl (Nat.le_of_ble_eq_true rfl) rfl hb2 (c_X9_matches h2) ?_
  refine hs_icmp_eq (tgt := 2704) dL_law_2370 (by decide) (fun hc3 => ?_) (fun hc3 => ?_)
  · rw [if_pos hc3] at h
    refine hs_sub (lv' := [(0, .retAddr 0), (1, .ref x1), (2, .ref x2), (3, .ref x3), (4, .int x4)]) [0, 1, 2, 3, 4] rfl ?_
    refine hs_weak (rc' := (3 * n)) (rs' := (18 * n)) (by omega) (by omega) ?_
    exact c_L_law_b2704 hl k23 hk23 h
  · rw [if_neg hc3] at h
    refine hs_iconst (v := (0 : Int32)) dL_law_2373 (by decide) ?_
    obtain rfl := Option.some.inj h
    exact hs_ireturn dL_law_2374 rfl (by decide) (fun h => by cases h)
set_option maxHeartbeats 4000000 in
set_option maxRecDepth 20000 in
theorem c_L_law_b2349 {G : hb_G} {l : Launch} (hl : l.stackTraces = false) {n : Nat}  (k23 : Nat → Nat → Nat → Int32 → hb_M → Option (Int32 × hb_M)) (hk23 : ∀ (x1 : Nat) (x2 : Nat) (x3 : Nat) (x4 : Int32) (σ : hb_M) (r : (Int32 × hb_M)), k23 x1 x2 x3 x4 σ = some r → hb_T G l true mL_law 83 (3 * n) (18 * n) 23 [(0, .retAddr 0), (1, .ref x1), (2, .ref x2), (3, .ref x3), (4, .int x4)] [] σ (.inl (some (.int r.1)), r.2))  {x1 : Nat} {x2 : Nat} {x3 : Nat} {x4 : Int32} {σ : hb_M} {r : (Int32 × hb_M)} (h : f_L_law_b2349 G.2.2.2.2.1 G.2.2.2.2.2 k23 x1 x2 x3 x4 σ = some r) : hb_T G l true mL_law 83 (3 * n + 3) (18 * n + 18) 2349 [(0, .retAddr 0), (1, .ref x1), (2, .ref x2), (3, .ref x3), (4, .int x4)] [] σ (.inl (some (.int r.1)), r.2) := by
  unfold f_L_law_b2349 at h
  refine hs_aload_n dL_law_2349 1 rfl ?_
  refine hs_weak (rc' := 0 + 3 * n) (rs' := 0 + 18 * n) (by omega) (by omega) ?_
  obtain ⟨r1, h1, h⟩ := hb_bind h
  obtain ⟨h1, nf1, hb1⟩ := hb_on_at h1
  refine hs_callVi (μ' := mX8_clearText) (mc := 0) (ms := 0) (rc := (3 * n)) (rs := (18 * n)) (As := []) (rest := []) (ci := 8) dL_law_2350 lmL_257 okX8_clearText rfl (by decide) rfl (Nat.le_of_ble_eq_true rfl) rfl hb1 (c_X8_clearText h1) ?_
  refine hs_aload_n dL_law_2353 2 rfl ?_
  refine hs_weak (rc' := 0 + 3 * n) (rs' := 0 + 18 * n) (by omega) (by omega) ?_
  obtain ⟨r2, h2, h⟩ := hb_bind h
  obtain ⟨h2, nf2, hb2⟩ := hb_on_at h2
  refine hs_callVi (μ' := mX9_clearText) (mc := 0) (ms := 0) (rc := (3 * n)) (rs := (18 * n)) (As := []) (rest := [.int r1.1]) (ci := 9) dL_law_2354 lmL_260 okX9_clearText rfl (by decide) rfl (Nat.le_of_ble_eq_true rfl) rfl hb2 (c_X9_clearText h2) ?_
  refine hs_icmp_eq (tgt := 2704) dL_law_2357 (by decide) (fun hc3 => ?_) (fun hc3 => ?_)
  · rw [if_pos hc3] at h
    refine hs_sub (lv' := [(0, .retAddr 0), (1, .ref x1), (2, .ref x2), (3, .ref x3), (4, .int x4)]) [0, 1, 2, 3, 4] rfl ?_
    refine hs_weak (rc' := (3 * n)) (rs' := (18 * n)) (by omega) (by omega) ?_
    exact c_L_law_b2704 hl k23 hk23 h
  · rw [if_neg hc3] at h
    refine hs_iconst (v := (0 : Int32)) dL_law_2360 (by decide) ?_
    obtain rfl := Option.some.inj h
    exact hs_ireturn dL_law_2361 rfl (by decide) (fun h => by cases h)
set_option maxHeartbeats 4000000 in
set_option maxRecDepth 20000 in
theorem c_L_law_b2346 {G : hb_G} {l : Launch} (hl : l.stackTraces = false) {n : Nat}  (k23 : Nat → Nat → Nat → Int32 → hb_M → Option (Int32 × hb_M)) (hk23 : ∀ (x1 : Nat) (x2 : Nat) (x3 : Nat) (x4 : Int32) (σ : hb_M) (r : (Int32 × hb_M)), k23 x1 x2 x3 x4 σ = some r → hb_T G l true mL_law 83 (3 * n) (18 * n) 23 [(0, .retAddr 0), (1, .ref x1), (2, .ref x2), (3, .ref x3), (4, .int x4)] [] σ (.inl (some (.int r.1)), r.2))  {x1 : Nat} {x2 : Nat} {x3 : Nat} {x4 : Int32} {σ : hb_M} {r : (Int32 × hb_M)} (h : f_L_law_b2346 G.2.2.2.2.1 G.2.2.2.2.2 k23 x1 x2 x3 x4 σ = some r) : hb_T G l true mL_law 83 (3 * n) (18 * n) 2346 [(0, .retAddr 0), (1, .ref x1), (2, .ref x2), (3, .ref x3), (4, .int x4)] [] σ (.inl (some (.int r.1)), r.2) := by
  unfold f_L_law_b2346 at h
  refine hs_goto (tgt := 2704) dL_law_2346 (by decide) ?_
  refine hs_sub (lv' := [(0, .retAddr 0), (1, .ref x1), (2, .ref x2), (3, .ref x3), (4, .int x4)]) [0, 1, 2, 3, 4] rfl ?_
  refine hs_weak (rc' := (3 * n)) (rs' := (18 * n)) (by omega) (by omega) ?_
  exact c_L_law_b2704 hl k23 hk23 h
set_option maxHeartbeats 4000000 in
set_option maxRecDepth 20000 in
theorem c_L_law_b2293 {G : hb_G} {l : Launch} (hl : l.stackTraces = false) {n : Nat}  (k23 : Nat → Nat → Nat → Int32 → hb_M → Option (Int32 × hb_M)) (hk23 : ∀ (x1 : Nat) (x2 : Nat) (x3 : Nat) (x4 : Int32) (σ : hb_M) (r : (Int32 × hb_M)), k23 x1 x2 x3 x4 σ = some r → hb_T G l true mL_law 83 (3 * n) (18 * n) 23 [(0, .retAddr 0), (1, .ref x1), (2, .ref x2), (3, .ref x3), (4, .int x4)] [] σ (.inl (some (.int r.1)), r.2))  {x1 : Nat} {x2 : Nat} {x3 : Nat} {x4 : Int32} {σ : hb_M} {r : (Int32 × hb_M)} (h : f_L_law_b2293 G.2.2.2.2.1 G.2.2.2.2.2 k23 x1 x2 x3 x4 σ = some r) : hb_T G l true mL_law 83 (3 * n + 3) (18 * n + 18) 2293 [(0, .retAddr 0), (1, .ref x1), (2, .ref x2), (3, .ref x3), (4, .int x4)] [] σ (.inl (some (.int r.1)), r.2) := by
  unfold f_L_law_b2293 at h
  refine hs_aload_n dL_law_2293 1 rfl ?_
  refine hs_sload_n dL_law_2294 0 rfl ?_
  refine hs_iload dL_law_2295 4 rfl ?_
  refine hs_iconst (v := (1 : Int32)) dL_law_2297 (by decide) ?_
  refine hs_iadd dL_law_2298 ?_
  obtain ⟨r1, h1, h⟩ := hb_bind h
  refine hs_iald dL_law_2299 h1 ?_
  refine hs_aload_n dL_law_2300 3 rfl ?_
  refine hs_weak (rc' := 2 + 3 * n) (rs' := 12 + 18 * n) (by omega) (by omega) ?_
  obtain ⟨r2, h2, h⟩ := hb_bind h
  refine hs_callSXi (μ' := mL_append) (mc := 2) (ms := 12) (rc := (3 * n)) (rs := (18 * n)) (As := [.ref x1, .int r1, .ref x3]) (rest := []) dL_law_2301 lmL_254 okL_append rfl (by decide) rfl (Nat.le_of_ble_eq_true rfl) (c_L_append hl h2) ?_
  refine hs_istore (lv' := [(5, .int r2.1), (0, .retAddr 0), (1, .ref x1), (2, .ref x2), (3, .ref x3), (4, .int x4)]) dL_law_2304 (by decide) rfl ?_
  refine hs_aload_n dL_law_2306 3 rfl ?_
  refine hs_sload_n dL_law_2307 1 rfl ?_
  refine hs_iload dL_law_2308 5 rfl ?_
  refine hs_iconst (v := (1 : Int32)) dL_law_2310 (by decide) ?_
  refine hs_iadd dL_law_2311 ?_
  obtain ⟨r3, h3, h⟩ := hb_bind h
  refine hs_iald dL_law_2312 h3 ?_
  refine hs_weak (rc' := 0 + 3 * n) (rs' := 0 + 18 * n) (by omega) (by omega) ?_
  obtain ⟨r4, h4, h⟩ := hb_bind h
  obtain ⟨h4, nf4, hb4⟩ := hb_on_at h4
  refine hs_callVi (μ' := mX9_append) (mc := 0) (ms := 0) (rc := (3 * n)) (rs := (18 * n)) (As := [.int r3]) (rest := []) (ci := 9) dL_law_2313 lmL_256 okX9_append rfl (by decide) rfl (Nat.le_of_ble_eq_true rfl) rfl hb4 (c_X9_append h4) ?_
  refine hs_istore (lv' := [(6, .int r4.1), (5, .int r2.1), (0, .retAddr 0), (1, .ref x1), (2, .ref x2), (3, .ref x3), (4, .int x4)]) dL_law_2316 (by decide) rfl ?_
  refine hs_aload_n dL_law_2318 4 rfl ?_
  refine hs_weak (rc' := 0 + 3 * n) (rs' := 0 + 18 * n) (by omega) (by omega) ?_
  obtain ⟨r5, h5, h⟩ := hb_bind h
  obtain ⟨h5, nf5, hb5⟩ := hb_on_at h5
  refine hs_callVi (μ' := mX9_thrown) (mc := 0) (ms := 0) (rc := (3 * n)) (rs := (18 * n)) (As := []) (rest := []) (ci := 9) dL_law_2319 lmL_140 okX9_thrown rfl (by decide) rfl (Nat.le_of_ble_eq_true rfl) rfl hb5 (c_X9_thrown h5) ?_
  refine hs_iload dL_law_2322 1 rfl ?_
  refine hs_icmp_eq (tgt := 2329) dL_law_2324 (by decide) (fun hc6 => ?_) (fun hc6 => ?_)
  · rw [if_pos hc6] at h
    refine hs_iload dL_law_2329 1 rfl ?_
    refine hs_if_ne (tgt := 2346) dL_law_2331 (by decide) (fun hc7 => ?_) (fun hc7 => ?_)
    · rw [if_neg hc7] at h
      refine hs_sub (lv' := [(0, .retAddr 0), (1, .ref x1), (2, .ref x2), (3, .ref x3), (4, .int x4)]) [2, 3, 4, 5, 6] rfl ?_
      refine hs_weak (rc' := (3 * n)) (rs' := (18 * n)) (by omega) (by omega) ?_
      exact c_L_law_b2346 hl k23 hk23 h
    · rw [if_pos hc7] at h
      refine hs_aload_n dL_law_2334 5 rfl ?_
      refine hs_iconst (v := (0 : Int32)) dL_law_2335 (by decide) ?_
      obtain ⟨r8, h8, h⟩ := hb_bind h
      refine hs_lald dL_law_2336 h8 ?_
      refine hs_iload dL_law_2337 0 rfl ?_
      refine hs_i2l dL_law_2339 ?_
      refine hs_lcmp dL_law_2340 ?_
      refine hs_if_eq (tgt := 2346) dL_law_2341 (by decide) (fun hc9 => ?_) (fun hc9 => ?_)
      · rw [if_pos hc9] at h
        refine hs_sub (lv' := [(0, .retAddr 0), (1, .ref x1), (2, .ref x2), (3, .ref x3), (4, .int x4)]) [2, 3, 4, 5, 6] rfl ?_
        refine hs_weak (rc' := (3 * n)) (rs' := (18 * n)) (by omega) (by omega) ?_
        exact c_L_law_b2346 hl k23 hk23 h
      · rw [if_neg hc9] at h
        refine hs_iconst (v := (0 : Int32)) dL_law_2344 (by decide) ?_
        obtain rfl := Option.some.inj h
        exact hs_ireturn dL_law_2345 rfl (by decide) (fun h => by cases h)
  · rw [if_neg hc6] at h
    refine hs_iconst (v := (0 : Int32)) dL_law_2327 (by decide) ?_
    obtain rfl := Option.some.inj h
    exact hs_ireturn dL_law_2328 rfl (by decide) (fun h => by cases h)
set_option maxHeartbeats 4000000 in
set_option maxRecDepth 20000 in
theorem c_L_law_b2290 {G : hb_G} {l : Launch} (hl : l.stackTraces = false) {n : Nat}  (k23 : Nat → Nat → Nat → Int32 → hb_M → Option (Int32 × hb_M)) (hk23 : ∀ (x1 : Nat) (x2 : Nat) (x3 : Nat) (x4 : Int32) (σ : hb_M) (r : (Int32 × hb_M)), k23 x1 x2 x3 x4 σ = some r → hb_T G l true mL_law 83 (3 * n) (18 * n) 23 [(0, .retAddr 0), (1, .ref x1), (2, .ref x2), (3, .ref x3), (4, .int x4)] [] σ (.inl (some (.int r.1)), r.2))  {x1 : Nat} {x2 : Nat} {x3 : Nat} {x4 : Int32} {σ : hb_M} {r : (Int32 × hb_M)} (h : f_L_law_b2290 G.2.2.2.2.1 G.2.2.2.2.2 k23 x1 x2 x3 x4 σ = some r) : hb_T G l true mL_law 83 (3 * n) (18 * n) 2290 [(0, .retAddr 0), (1, .ref x1), (2, .ref x2), (3, .ref x3), (4, .int x4)] [] σ (.inl (some (.int r.1)), r.2) := by
  unfold f_L_law_b2290 at h
  refine hs_goto (tgt := 2704) dL_law_2290 (by decide) ?_
  refine hs_sub (lv' := [(0, .retAddr 0), (1, .ref x1), (2, .ref x2), (3, .ref x3), (4, .int x4)]) [0, 1, 2, 3, 4] rfl ?_
  refine hs_weak (rc' := (3 * n)) (rs' := (18 * n)) (by omega) (by omega) ?_
  exact c_L_law_b2704 hl k23 hk23 h
set_option maxHeartbeats 4000000 in
set_option maxRecDepth 20000 in
theorem c_L_law_b2225 {G : hb_G} {l : Launch} (hl : l.stackTraces = false) {n : Nat}  (k23 : Nat → Nat → Nat → Int32 → hb_M → Option (Int32 × hb_M)) (hk23 : ∀ (x1 : Nat) (x2 : Nat) (x3 : Nat) (x4 : Int32) (σ : hb_M) (r : (Int32 × hb_M)), k23 x1 x2 x3 x4 σ = some r → hb_T G l true mL_law 83 (3 * n) (18 * n) 23 [(0, .retAddr 0), (1, .ref x1), (2, .ref x2), (3, .ref x3), (4, .int x4)] [] σ (.inl (some (.int r.1)), r.2))  {x1 : Nat} {x2 : Nat} {x3 : Nat} {x4 : Int32} {σ : hb_M} {r : (Int32 × hb_M)} (h : f_L_law_b2225 G.2.2.2.2.1 G.2.2.2.2.2 k23 x1 x2 x3 x4 σ = some r) : hb_T G l true mL_law 83 (3 * n + 3) (18 * n + 18) 2225 [(0, .retAddr 0), (1, .ref x1), (2, .ref x2), (3, .ref x3), (4, .int x4)] [] σ (.inl (some (.int r.1)), r.2) := by
  unfold f_L_law_b2225 at h
  refine hs_aload_n dL_law_2225 1 rfl ?_
  refine hs_sload_n dL_law_2226 0 rfl ?_
  refine hs_iload dL_law_2227 4 rfl ?_
  refine hs_iconst (v := (1 : Int32)) dL_law_2229 (by decide) ?_
  refine hs_iadd dL_law_2230 ?_
  obtain ⟨r1, h1, h⟩ := hb_bind h
  refine hs_iald dL_law_2231 h1 ?_
  refine hs_sload_n dL_law_2232 0 rfl ?_
  refine hs_iload dL_law_2233 4 rfl ?_
  refine hs_iconst (v := (2 : Int32)) dL_law_2235 (by decide) ?_
  refine hs_iadd dL_law_2236 ?_
  obtain ⟨r2, h2, h⟩ := hb_bind h
  refine hs_iald dL_law_2237 h2 ?_
  refine hs_aload_n dL_law_2238 3 rfl ?_
  refine hs_weak (rc' := 3 + 3 * n) (rs' := 18 + 18 * n) (by omega) (by omega) ?_
  obtain ⟨r3, h3, h⟩ := hb_bind h
  refine hs_callSXi (μ' := mL_accumulationPoint) (mc := 3) (ms := 18) (rc := (3 * n)) (rs := (18 * n)) (As := [.ref x1, .int r1, .int r2, .ref x3]) (rest := []) dL_law_2239 lmL_251 okL_accumulationPoint rfl (by decide) rfl (Nat.le_of_ble_eq_true rfl) (c_L_accumulationPoint hl h3) ?_
  refine hs_istore (lv' := [(5, .int r3.1), (0, .retAddr 0), (1, .ref x1), (2, .ref x2), (3, .ref x3), (4, .int x4)]) dL_law_2242 (by decide) rfl ?_
  refine hs_aload_n dL_law_2244 3 rfl ?_
  refine hs_sload_n dL_law_2245 1 rfl ?_
  refine hs_iload dL_law_2246 5 rfl ?_
  refine hs_iconst (v := (1 : Int32)) dL_law_2248 (by decide) ?_
  refine hs_iadd dL_law_2249 ?_
  obtain ⟨r4, h4, h⟩ := hb_bind h
  refine hs_iald dL_law_2250 h4 ?_
  refine hs_sload_n dL_law_2251 1 rfl ?_
  refine hs_iload dL_law_2252 5 rfl ?_
  refine hs_iconst (v := (2 : Int32)) dL_law_2254 (by decide) ?_
  refine hs_iadd dL_law_2255 ?_
  obtain ⟨r5, h5, h⟩ := hb_bind h
  refine hs_iald dL_law_2256 h5 ?_
  refine hs_weak (rc' := 0 + 3 * n) (rs' := 0 + 18 * n) (by omega) (by omega) ?_
  obtain ⟨r6, h6, h⟩ := hb_bind h
  obtain ⟨h6, nf6, hb6⟩ := hb_on_at h6
  refine hs_callVi (μ' := mX9_accumulationPoint) (mc := 0) (ms := 0) (rc := (3 * n)) (rs := (18 * n)) (As := [.int r4, .int r5]) (rest := []) (ci := 9) dL_law_2257 lmL_253 okX9_accumulationPoint rfl (by decide) rfl (Nat.le_of_ble_eq_true rfl) rfl hb6 (c_X9_accumulationPoint h6) ?_
  refine hs_istore (lv' := [(6, .int r6.1), (5, .int r3.1), (0, .retAddr 0), (1, .ref x1), (2, .ref x2), (3, .ref x3), (4, .int x4)]) dL_law_2260 (by decide) rfl ?_
  refine hs_aload_n dL_law_2262 4 rfl ?_
  refine hs_weak (rc' := 0 + 3 * n) (rs' := 0 + 18 * n) (by omega) (by omega) ?_
  obtain ⟨r7, h7, h⟩ := hb_bind h
  obtain ⟨h7, nf7, hb7⟩ := hb_on_at h7
  refine hs_callVi (μ' := mX9_thrown) (mc := 0) (ms := 0) (rc := (3 * n)) (rs := (18 * n)) (As := []) (rest := []) (ci := 9) dL_law_2263 lmL_140 okX9_thrown rfl (by decide) rfl (Nat.le_of_ble_eq_true rfl) rfl hb7 (c_X9_thrown h7) ?_
  refine hs_iload dL_law_2266 1 rfl ?_
  refine hs_icmp_eq (tgt := 2273) dL_law_2268 (by decide) (fun hc8 => ?_) (fun hc8 => ?_)
  · rw [if_pos hc8] at h
    refine hs_iload dL_law_2273 1 rfl ?_
    refine hs_if_ne (tgt := 2290) dL_law_2275 (by decide) (fun hc9 => ?_) (fun hc9 => ?_)
    · rw [if_neg hc9] at h
      refine hs_sub (lv' := [(0, .retAddr 0), (1, .ref x1), (2, .ref x2), (3, .ref x3), (4, .int x4)]) [2, 3, 4, 5, 6] rfl ?_
      refine hs_weak (rc' := (3 * n)) (rs' := (18 * n)) (by omega) (by omega) ?_
      exact c_L_law_b2290 hl k23 hk23 h
    · rw [if_pos hc9] at h
      refine hs_aload_n dL_law_2278 5 rfl ?_
      refine hs_iconst (v := (0 : Int32)) dL_law_2279 (by decide) ?_
      obtain ⟨r10, h10, h⟩ := hb_bind h
      refine hs_lald dL_law_2280 h10 ?_
      refine hs_iload dL_law_2281 0 rfl ?_
      refine hs_i2l dL_law_2283 ?_
      refine hs_lcmp dL_law_2284 ?_
      refine hs_if_eq (tgt := 2290) dL_law_2285 (by decide) (fun hc11 => ?_) (fun hc11 => ?_)
      · rw [if_pos hc11] at h
        refine hs_sub (lv' := [(0, .retAddr 0), (1, .ref x1), (2, .ref x2), (3, .ref x3), (4, .int x4)]) [2, 3, 4, 5, 6] rfl ?_
        refine hs_weak (rc' := (3 * n)) (rs' := (18 * n)) (by omega) (by omega) ?_
        exact c_L_law_b2290 hl k23 hk23 h
      · rw [if_neg hc11] at h
        refine hs_iconst (v := (0 : Int32)) dL_law_2288 (by decide) ?_
        obtain rfl := Option.some.inj h
        exact hs_ireturn dL_law_2289 rfl (by decide) (fun h => by cases h)
  · rw [if_neg hc8] at h
    refine hs_iconst (v := (0 : Int32)) dL_law_2271 (by decide) ?_
    obtain rfl := Option.some.inj h
    exact hs_ireturn dL_law_2272 rfl (by decide) (fun h => by cases h)
set_option maxHeartbeats 4000000 in
set_option maxRecDepth 20000 in
theorem c_L_law_b2222 {G : hb_G} {l : Launch} (hl : l.stackTraces = false) {n : Nat}  (k23 : Nat → Nat → Nat → Int32 → hb_M → Option (Int32 × hb_M)) (hk23 : ∀ (x1 : Nat) (x2 : Nat) (x3 : Nat) (x4 : Int32) (σ : hb_M) (r : (Int32 × hb_M)), k23 x1 x2 x3 x4 σ = some r → hb_T G l true mL_law 83 (3 * n) (18 * n) 23 [(0, .retAddr 0), (1, .ref x1), (2, .ref x2), (3, .ref x3), (4, .int x4)] [] σ (.inl (some (.int r.1)), r.2))  {x1 : Nat} {x2 : Nat} {x3 : Nat} {x4 : Int32} {σ : hb_M} {r : (Int32 × hb_M)} (h : f_L_law_b2222 G.2.2.2.2.1 G.2.2.2.2.2 k23 x1 x2 x3 x4 σ = some r) : hb_T G l true mL_law 83 (3 * n) (18 * n) 2222 [(0, .retAddr 0), (1, .ref x1), (2, .ref x2), (3, .ref x3), (4, .int x4)] [] σ (.inl (some (.int r.1)), r.2) := by
  unfold f_L_law_b2222 at h
  refine hs_goto (tgt := 2704) dL_law_2222 (by decide) ?_
  refine hs_sub (lv' := [(0, .retAddr 0), (1, .ref x1), (2, .ref x2), (3, .ref x3), (4, .int x4)]) [0, 1, 2, 3, 4] rfl ?_
  refine hs_weak (rc' := (3 * n)) (rs' := (18 * n)) (by omega) (by omega) ?_
  exact c_L_law_b2704 hl k23 hk23 h
set_option maxHeartbeats 4000000 in
set_option maxRecDepth 20000 in
theorem c_L_law_b2157 {G : hb_G} {l : Launch} (hl : l.stackTraces = false) {n : Nat}  (k23 : Nat → Nat → Nat → Int32 → hb_M → Option (Int32 × hb_M)) (hk23 : ∀ (x1 : Nat) (x2 : Nat) (x3 : Nat) (x4 : Int32) (σ : hb_M) (r : (Int32 × hb_M)), k23 x1 x2 x3 x4 σ = some r → hb_T G l true mL_law 83 (3 * n) (18 * n) 23 [(0, .retAddr 0), (1, .ref x1), (2, .ref x2), (3, .ref x3), (4, .int x4)] [] σ (.inl (some (.int r.1)), r.2))  {x1 : Nat} {x2 : Nat} {x3 : Nat} {x4 : Int32} {σ : hb_M} {r : (Int32 × hb_M)} (h : f_L_law_b2157 G.2.2.2.2.1 G.2.2.2.2.2 k23 x1 x2 x3 x4 σ = some r) : hb_T G l true mL_law 83 (3 * n + 3) (18 * n + 18) 2157 [(0, .retAddr 0), (1, .ref x1), (2, .ref x2), (3, .ref x3), (4, .int x4)] [] σ (.inl (some (.int r.1)), r.2) := by
  unfold f_L_law_b2157 at h
  refine hs_aload_n dL_law_2157 1 rfl ?_
  refine hs_sload_n dL_law_2158 0 rfl ?_
  refine hs_iload dL_law_2159 4 rfl ?_
  refine hs_iconst (v := (1 : Int32)) dL_law_2161 (by decide) ?_
  refine hs_iadd dL_law_2162 ?_
  obtain ⟨r1, h1, h⟩ := hb_bind h
  refine hs_iald dL_law_2163 h1 ?_
  refine hs_sload_n dL_law_2164 0 rfl ?_
  refine hs_iload dL_law_2165 4 rfl ?_
  refine hs_iconst (v := (2 : Int32)) dL_law_2167 (by decide) ?_
  refine hs_iadd dL_law_2168 ?_
  obtain ⟨r2, h2, h⟩ := hb_bind h
  refine hs_iald dL_law_2169 h2 ?_
  refine hs_aload_n dL_law_2170 3 rfl ?_
  refine hs_weak (rc' := 1 + 3 * n) (rs' := 6 + 18 * n) (by omega) (by omega) ?_
  obtain ⟨r3, h3, h⟩ := hb_bind h
  refine hs_callSXi (μ' := mL_suspectAt) (mc := 1) (ms := 6) (rc := (3 * n)) (rs := (18 * n)) (As := [.ref x1, .int r1, .int r2, .ref x3]) (rest := []) dL_law_2171 lmL_248 okL_suspectAt rfl (by decide) rfl (Nat.le_of_ble_eq_true rfl) (c_L_suspectAt hl h3) ?_
  refine hs_istore (lv' := [(5, .int r3.1), (0, .retAddr 0), (1, .ref x1), (2, .ref x2), (3, .ref x3), (4, .int x4)]) dL_law_2174 (by decide) rfl ?_
  refine hs_aload_n dL_law_2176 3 rfl ?_
  refine hs_sload_n dL_law_2177 1 rfl ?_
  refine hs_iload dL_law_2178 5 rfl ?_
  refine hs_iconst (v := (1 : Int32)) dL_law_2180 (by decide) ?_
  refine hs_iadd dL_law_2181 ?_
  obtain ⟨r4, h4, h⟩ := hb_bind h
  refine hs_iald dL_law_2182 h4 ?_
  refine hs_sload_n dL_law_2183 1 rfl ?_
  refine hs_iload dL_law_2184 5 rfl ?_
  refine hs_iconst (v := (2 : Int32)) dL_law_2186 (by decide) ?_
  refine hs_iadd dL_law_2187 ?_
  obtain ⟨r5, h5, h⟩ := hb_bind h
  refine hs_iald dL_law_2188 h5 ?_
  refine hs_weak (rc' := 0 + 3 * n) (rs' := 0 + 18 * n) (by omega) (by omega) ?_
  obtain ⟨r6, h6, h⟩ := hb_bind h
  obtain ⟨h6, nf6, hb6⟩ := hb_on_at h6
  refine hs_callVi (μ' := mX9_suspectAt) (mc := 0) (ms := 0) (rc := (3 * n)) (rs := (18 * n)) (As := [.int r4, .int r5]) (rest := []) (ci := 9) dL_law_2189 lmL_250 okX9_suspectAt rfl (by decide) rfl (Nat.le_of_ble_eq_true rfl) rfl hb6 (c_X9_suspectAt h6) ?_
  refine hs_istore (lv' := [(6, .int r6.1), (5, .int r3.1), (0, .retAddr 0), (1, .ref x1), (2, .ref x2), (3, .ref x3), (4, .int x4)]) dL_law_2192 (by decide) rfl ?_
  refine hs_aload_n dL_law_2194 4 rfl ?_
  refine hs_weak (rc' := 0 + 3 * n) (rs' := 0 + 18 * n) (by omega) (by omega) ?_
  obtain ⟨r7, h7, h⟩ := hb_bind h
  obtain ⟨h7, nf7, hb7⟩ := hb_on_at h7
  refine hs_callVi (μ' := mX9_thrown) (mc := 0) (ms := 0) (rc := (3 * n)) (rs := (18 * n)) (As := []) (rest := []) (ci := 9) dL_law_2195 lmL_140 okX9_thrown rfl (by decide) rfl (Nat.le_of_ble_eq_true rfl) rfl hb7 (c_X9_thrown h7) ?_
  refine hs_iload dL_law_2198 1 rfl ?_
  refine hs_icmp_eq (tgt := 2205) dL_law_2200 (by decide) (fun hc8 => ?_) (fun hc8 => ?_)
  · rw [if_pos hc8] at h
    refine hs_iload dL_law_2205 1 rfl ?_
    refine hs_if_ne (tgt := 2222) dL_law_2207 (by decide) (fun hc9 => ?_) (fun hc9 => ?_)
    · rw [if_neg hc9] at h
      refine hs_sub (lv' := [(0, .retAddr 0), (1, .ref x1), (2, .ref x2), (3, .ref x3), (4, .int x4)]) [2, 3, 4, 5, 6] rfl ?_
      refine hs_weak (rc' := (3 * n)) (rs' := (18 * n)) (by omega) (by omega) ?_
      exact c_L_law_b2222 hl k23 hk23 h
    · rw [if_pos hc9] at h
      refine hs_aload_n dL_law_2210 5 rfl ?_
      refine hs_iconst (v := (0 : Int32)) dL_law_2211 (by decide) ?_
      obtain ⟨r10, h10, h⟩ := hb_bind h
      refine hs_lald dL_law_2212 h10 ?_
      refine hs_iload dL_law_2213 0 rfl ?_
      refine hs_i2l dL_law_2215 ?_
      refine hs_lcmp dL_law_2216 ?_
      refine hs_if_eq (tgt := 2222) dL_law_2217 (by decide) (fun hc11 => ?_) (fun hc11 => ?_)
      · rw [if_pos hc11] at h
        refine hs_sub (lv' := [(0, .retAddr 0), (1, .ref x1), (2, .ref x2), (3, .ref x3), (4, .int x4)]) [2, 3, 4, 5, 6] rfl ?_
        refine hs_weak (rc' := (3 * n)) (rs' := (18 * n)) (by omega) (by omega) ?_
        exact c_L_law_b2222 hl k23 hk23 h
      · rw [if_neg hc11] at h
        refine hs_iconst (v := (0 : Int32)) dL_law_2220 (by decide) ?_
        obtain rfl := Option.some.inj h
        exact hs_ireturn dL_law_2221 rfl (by decide) (fun h => by cases h)
  · rw [if_neg hc8] at h
    refine hs_iconst (v := (0 : Int32)) dL_law_2203 (by decide) ?_
    obtain rfl := Option.some.inj h
    exact hs_ireturn dL_law_2204 rfl (by decide) (fun h => by cases h)
set_option maxHeartbeats 4000000 in
set_option maxRecDepth 20000 in
theorem c_L_law_b2154 {G : hb_G} {l : Launch} (hl : l.stackTraces = false) {n : Nat}  (k23 : Nat → Nat → Nat → Int32 → hb_M → Option (Int32 × hb_M)) (hk23 : ∀ (x1 : Nat) (x2 : Nat) (x3 : Nat) (x4 : Int32) (σ : hb_M) (r : (Int32 × hb_M)), k23 x1 x2 x3 x4 σ = some r → hb_T G l true mL_law 83 (3 * n) (18 * n) 23 [(0, .retAddr 0), (1, .ref x1), (2, .ref x2), (3, .ref x3), (4, .int x4)] [] σ (.inl (some (.int r.1)), r.2))  {x1 : Nat} {x2 : Nat} {x3 : Nat} {x4 : Int32} {σ : hb_M} {r : (Int32 × hb_M)} (h : f_L_law_b2154 G.2.2.2.2.1 G.2.2.2.2.2 k23 x1 x2 x3 x4 σ = some r) : hb_T G l true mL_law 83 (3 * n) (18 * n) 2154 [(0, .retAddr 0), (1, .ref x1), (2, .ref x2), (3, .ref x3), (4, .int x4)] [] σ (.inl (some (.int r.1)), r.2) := by
  unfold f_L_law_b2154 at h
  refine hs_goto (tgt := 2704) dL_law_2154 (by decide) ?_
  refine hs_sub (lv' := [(0, .retAddr 0), (1, .ref x1), (2, .ref x2), (3, .ref x3), (4, .int x4)]) [0, 1, 2, 3, 4] rfl ?_
  refine hs_weak (rc' := (3 * n)) (rs' := (18 * n)) (by omega) (by omega) ?_
  exact c_L_law_b2704 hl k23 hk23 h
set_option maxHeartbeats 4000000 in
set_option maxRecDepth 20000 in
theorem c_L_law_b2101 {G : hb_G} {l : Launch} (hl : l.stackTraces = false) {n : Nat}  (k23 : Nat → Nat → Nat → Int32 → hb_M → Option (Int32 × hb_M)) (hk23 : ∀ (x1 : Nat) (x2 : Nat) (x3 : Nat) (x4 : Int32) (σ : hb_M) (r : (Int32 × hb_M)), k23 x1 x2 x3 x4 σ = some r → hb_T G l true mL_law 83 (3 * n) (18 * n) 23 [(0, .retAddr 0), (1, .ref x1), (2, .ref x2), (3, .ref x3), (4, .int x4)] [] σ (.inl (some (.int r.1)), r.2))  {x1 : Nat} {x2 : Nat} {x3 : Nat} {x4 : Int32} {σ : hb_M} {r : (Int32 × hb_M)} (h : f_L_law_b2101 G.2.2.2.2.1 G.2.2.2.2.2 k23 x1 x2 x3 x4 σ = some r) : hb_T G l true mL_law 83 (3 * n + 3) (18 * n + 18) 2101 [(0, .retAddr 0), (1, .ref x1), (2, .ref x2), (3, .ref x3), (4, .int x4)] [] σ (.inl (some (.int r.1)), r.2) := by
  unfold f_L_law_b2101 at h
  refine hs_aload_n dL_law_2101 1 rfl ?_
  refine hs_sload_n dL_law_2102 0 rfl ?_
  refine hs_iload dL_law_2103 4 rfl ?_
  refine hs_iconst (v := (1 : Int32)) dL_law_2105 (by decide) ?_
  refine hs_iadd dL_law_2106 ?_
  obtain ⟨r1, h1, h⟩ := hb_bind h
  refine hs_iald dL_law_2107 h1 ?_
  refine hs_aload_n dL_law_2108 3 rfl ?_
  refine hs_weak (rc' := 1 + 3 * n) (rs' := 6 + 18 * n) (by omega) (by omega) ?_
  obtain ⟨r2, h2, h⟩ := hb_bind h
  refine hs_callSXi (μ' := mL_shareBits) (mc := 1) (ms := 6) (rc := (3 * n)) (rs := (18 * n)) (As := [.ref x1, .int r1, .ref x3]) (rest := []) dL_law_2109 lmL_245 okL_shareBits rfl (by decide) rfl (Nat.le_of_ble_eq_true rfl) (c_L_shareBits hl h2) ?_
  refine hs_istore (lv' := [(5, .int r2.1), (0, .retAddr 0), (1, .ref x1), (2, .ref x2), (3, .ref x3), (4, .int x4)]) dL_law_2112 (by decide) rfl ?_
  refine hs_aload_n dL_law_2114 3 rfl ?_
  refine hs_sload_n dL_law_2115 1 rfl ?_
  refine hs_iload dL_law_2116 5 rfl ?_
  refine hs_iconst (v := (1 : Int32)) dL_law_2118 (by decide) ?_
  refine hs_iadd dL_law_2119 ?_
  obtain ⟨r3, h3, h⟩ := hb_bind h
  refine hs_iald dL_law_2120 h3 ?_
  refine hs_weak (rc' := 0 + 3 * n) (rs' := 0 + 18 * n) (by omega) (by omega) ?_
  obtain ⟨r4, h4, h⟩ := hb_bind h
  obtain ⟨h4, nf4, hb4⟩ := hb_on_at h4
  refine hs_callVi (μ' := mX9_shareBits) (mc := 0) (ms := 0) (rc := (3 * n)) (rs := (18 * n)) (As := [.int r3]) (rest := []) (ci := 9) dL_law_2121 lmL_247 okX9_shareBits rfl (by decide) rfl (Nat.le_of_ble_eq_true rfl) rfl hb4 (c_X9_shareBits h4) ?_
  refine hs_istore (lv' := [(6, .int r4.1), (5, .int r2.1), (0, .retAddr 0), (1, .ref x1), (2, .ref x2), (3, .ref x3), (4, .int x4)]) dL_law_2124 (by decide) rfl ?_
  refine hs_aload_n dL_law_2126 4 rfl ?_
  refine hs_weak (rc' := 0 + 3 * n) (rs' := 0 + 18 * n) (by omega) (by omega) ?_
  obtain ⟨r5, h5, h⟩ := hb_bind h
  obtain ⟨h5, nf5, hb5⟩ := hb_on_at h5
  refine hs_callVi (μ' := mX9_thrown) (mc := 0) (ms := 0) (rc := (3 * n)) (rs := (18 * n)) (As := []) (rest := []) (ci := 9) dL_law_2127 lmL_140 okX9_thrown rfl (by decide) rfl (Nat.le_of_ble_eq_true rfl) rfl hb5 (c_X9_thrown h5) ?_
  refine hs_iload dL_law_2130 1 rfl ?_
  refine hs_icmp_eq (tgt := 2137) dL_law_2132 (by decide) (fun hc6 => ?_) (fun hc6 => ?_)
  · rw [if_pos hc6] at h
    refine hs_iload dL_law_2137 1 rfl ?_
    refine hs_if_ne (tgt := 2154) dL_law_2139 (by decide) (fun hc7 => ?_) (fun hc7 => ?_)
    · rw [if_neg hc7] at h
      refine hs_sub (lv' := [(0, .retAddr 0), (1, .ref x1), (2, .ref x2), (3, .ref x3), (4, .int x4)]) [2, 3, 4, 5, 6] rfl ?_
      refine hs_weak (rc' := (3 * n)) (rs' := (18 * n)) (by omega) (by omega) ?_
      exact c_L_law_b2154 hl k23 hk23 h
    · rw [if_pos hc7] at h
      refine hs_aload_n dL_law_2142 5 rfl ?_
      refine hs_iconst (v := (0 : Int32)) dL_law_2143 (by decide) ?_
      obtain ⟨r8, h8, h⟩ := hb_bind h
      refine hs_lald dL_law_2144 h8 ?_
      refine hs_iload dL_law_2145 0 rfl ?_
      refine hs_i2l dL_law_2147 ?_
      refine hs_lcmp dL_law_2148 ?_
      refine hs_if_eq (tgt := 2154) dL_law_2149 (by decide) (fun hc9 => ?_) (fun hc9 => ?_)
      · rw [if_pos hc9] at h
        refine hs_sub (lv' := [(0, .retAddr 0), (1, .ref x1), (2, .ref x2), (3, .ref x3), (4, .int x4)]) [2, 3, 4, 5, 6] rfl ?_
        refine hs_weak (rc' := (3 * n)) (rs' := (18 * n)) (by omega) (by omega) ?_
        exact c_L_law_b2154 hl k23 hk23 h
      · rw [if_neg hc9] at h
        refine hs_iconst (v := (0 : Int32)) dL_law_2152 (by decide) ?_
        obtain rfl := Option.some.inj h
        exact hs_ireturn dL_law_2153 rfl (by decide) (fun h => by cases h)
  · rw [if_neg hc6] at h
    refine hs_iconst (v := (0 : Int32)) dL_law_2135 (by decide) ?_
    obtain rfl := Option.some.inj h
    exact hs_ireturn dL_law_2136 rfl (by decide) (fun h => by cases h)
set_option maxHeartbeats 4000000 in
set_option maxRecDepth 20000 in
theorem c_L_law_b2098 {G : hb_G} {l : Launch} (hl : l.stackTraces = false) {n : Nat}  (k23 : Nat → Nat → Nat → Int32 → hb_M → Option (Int32 × hb_M)) (hk23 : ∀ (x1 : Nat) (x2 : Nat) (x3 : Nat) (x4 : Int32) (σ : hb_M) (r : (Int32 × hb_M)), k23 x1 x2 x3 x4 σ = some r → hb_T G l true mL_law 83 (3 * n) (18 * n) 23 [(0, .retAddr 0), (1, .ref x1), (2, .ref x2), (3, .ref x3), (4, .int x4)] [] σ (.inl (some (.int r.1)), r.2))  {x1 : Nat} {x2 : Nat} {x3 : Nat} {x4 : Int32} {σ : hb_M} {r : (Int32 × hb_M)} (h : f_L_law_b2098 G.2.2.2.2.1 G.2.2.2.2.2 k23 x1 x2 x3 x4 σ = some r) : hb_T G l true mL_law 83 (3 * n) (18 * n) 2098 [(0, .retAddr 0), (1, .ref x1), (2, .ref x2), (3, .ref x3), (4, .int x4)] [] σ (.inl (some (.int r.1)), r.2) := by
  unfold f_L_law_b2098 at h
  refine hs_goto (tgt := 2704) dL_law_2098 (by decide) ?_
  refine hs_sub (lv' := [(0, .retAddr 0), (1, .ref x1), (2, .ref x2), (3, .ref x3), (4, .int x4)]) [0, 1, 2, 3, 4] rfl ?_
  refine hs_weak (rc' := (3 * n)) (rs' := (18 * n)) (by omega) (by omega) ?_
  exact c_L_law_b2704 hl k23 hk23 h
set_option maxHeartbeats 4000000 in
set_option maxRecDepth 20000 in
theorem c_L_law_b2046 {G : hb_G} {l : Launch} (hl : l.stackTraces = false) {n : Nat}  (k23 : Nat → Nat → Nat → Int32 → hb_M → Option (Int32 × hb_M)) (hk23 : ∀ (x1 : Nat) (x2 : Nat) (x3 : Nat) (x4 : Int32) (σ : hb_M) (r : (Int32 × hb_M)), k23 x1 x2 x3 x4 σ = some r → hb_T G l true mL_law 83 (3 * n) (18 * n) 23 [(0, .retAddr 0), (1, .ref x1), (2, .ref x2), (3, .ref x3), (4, .int x4)] [] σ (.inl (some (.int r.1)), r.2))  {x1 : Nat} {x2 : Nat} {x3 : Nat} {x4 : Int32} {σ : hb_M} {r : (Int32 × hb_M)} (h : f_L_law_b2046 G.2.2.2.2.1 G.2.2.2.2.2 k23 x1 x2 x3 x4 σ = some r) : hb_T G l true mL_law 83 (3 * n + 3) (18 * n + 18) 2046 [(0, .retAddr 0), (1, .ref x1), (2, .ref x2), (3, .ref x3), (4, .int x4)] [] σ (.inl (some (.int r.1)), r.2) := by
  unfold f_L_law_b2046 at h
  refine hs_aload_n dL_law_2046 1 rfl ?_
  refine hs_sload_n dL_law_2047 0 rfl ?_
  refine hs_iload dL_law_2048 4 rfl ?_
  refine hs_iconst (v := (1 : Int32)) dL_law_2050 (by decide) ?_
  refine hs_iadd dL_law_2051 ?_
  obtain ⟨r1, h1, h⟩ := hb_bind h
  refine hs_iald dL_law_2052 h1 ?_
  refine hs_aload_n dL_law_2053 3 rfl ?_
  refine hs_weak (rc' := 1 + 3 * n) (rs' := 6 + 18 * n) (by omega) (by omega) ?_
  obtain ⟨r2, h2, h⟩ := hb_bind h
  refine hs_callSXi (μ' := mL_meanRetainedBits) (mc := 1) (ms := 6) (rc := (3 * n)) (rs := (18 * n)) (As := [.ref x1, .int r1, .ref x3]) (rest := []) dL_law_2054 lmL_242 okL_meanRetainedBits rfl (by decide) rfl (Nat.le_of_ble_eq_true rfl) (c_L_meanRetainedBits hl h2) ?_
  refine hs_istore (lv' := [(5, .int r2.1), (0, .retAddr 0), (1, .ref x1), (2, .ref x2), (3, .ref x3), (4, .int x4)]) dL_law_2057 (by decide) rfl ?_
  refine hs_aload_n dL_law_2059 3 rfl ?_
  refine hs_sload_n dL_law_2060 1 rfl ?_
  refine hs_iload dL_law_2061 5 rfl ?_
  refine hs_iconst (v := (1 : Int32)) dL_law_2063 (by decide) ?_
  refine hs_iadd dL_law_2064 ?_
  obtain ⟨r3, h3, h⟩ := hb_bind h
  refine hs_iald dL_law_2065 h3 ?_
  refine hs_weak (rc' := 0 + 3 * n) (rs' := 0 + 18 * n) (by omega) (by omega) ?_
  obtain ⟨r4, h4, h⟩ := hb_bind h
  obtain ⟨h4, nf4, hb4⟩ := hb_on_at h4
  refine hs_callVl (μ' := mX9_meanRetainedBits) (mc := 0) (ms := 0) (rc := (3 * n)) (rs := (18 * n)) (As := [.int r3]) (rest := []) (ci := 9) dL_law_2066 lmL_244 okX9_meanRetainedBits rfl (by decide) rfl (Nat.le_of_ble_eq_true rfl) rfl hb4 (c_X9_meanRetainedBits h4) ?_
  refine hs_lstore (lv' := [(6, .long r4.1), (5, .int r2.1), (0, .retAddr 0), (1, .ref x1), (2, .ref x2), (3, .ref x3), (4, .int x4)]) dL_law_2069 (by decide) rfl ?_
  refine hs_aload_n dL_law_2071 4 rfl ?_
  refine hs_weak (rc' := 0 + 3 * n) (rs' := 0 + 18 * n) (by omega) (by omega) ?_
  obtain ⟨r5, h5, h⟩ := hb_bind h
  obtain ⟨h5, nf5, hb5⟩ := hb_on_at h5
  refine hs_callVi (μ' := mX9_thrown) (mc := 0) (ms := 0) (rc := (3 * n)) (rs := (18 * n)) (As := []) (rest := []) (ci := 9) dL_law_2072 lmL_140 okX9_thrown rfl (by decide) rfl (Nat.le_of_ble_eq_true rfl) rfl hb5 (c_X9_thrown h5) ?_
  refine hs_iload dL_law_2075 1 rfl ?_
  refine hs_icmp_eq (tgt := 2082) dL_law_2077 (by decide) (fun hc6 => ?_) (fun hc6 => ?_)
  · rw [if_pos hc6] at h
    refine hs_iload dL_law_2082 1 rfl ?_
    refine hs_if_ne (tgt := 2098) dL_law_2084 (by decide) (fun hc7 => ?_) (fun hc7 => ?_)
    · rw [if_neg hc7] at h
      refine hs_sub (lv' := [(0, .retAddr 0), (1, .ref x1), (2, .ref x2), (3, .ref x3), (4, .int x4)]) [2, 3, 4, 5, 6] rfl ?_
      refine hs_weak (rc' := (3 * n)) (rs' := (18 * n)) (by omega) (by omega) ?_
      exact c_L_law_b2098 hl k23 hk23 h
    · rw [if_pos hc7] at h
      refine hs_aload_n dL_law_2087 5 rfl ?_
      refine hs_iconst (v := (0 : Int32)) dL_law_2088 (by decide) ?_
      obtain ⟨r8, h8, h⟩ := hb_bind h
      refine hs_lald dL_law_2089 h8 ?_
      refine hs_lload dL_law_2090 0 rfl ?_
      refine hs_lcmp dL_law_2092 ?_
      refine hs_if_eq (tgt := 2098) dL_law_2093 (by decide) (fun hc9 => ?_) (fun hc9 => ?_)
      · rw [if_pos hc9] at h
        refine hs_sub (lv' := [(0, .retAddr 0), (1, .ref x1), (2, .ref x2), (3, .ref x3), (4, .int x4)]) [2, 3, 4, 5, 6] rfl ?_
        refine hs_weak (rc' := (3 * n)) (rs' := (18 * n)) (by omega) (by omega) ?_
        exact c_L_law_b2098 hl k23 hk23 h
      · rw [if_neg hc9] at h
        refine hs_iconst (v := (0 : Int32)) dL_law_2096 (by decide) ?_
        obtain rfl := Option.some.inj h
        exact hs_ireturn dL_law_2097 rfl (by decide) (fun h => by cases h)
  · rw [if_neg hc6] at h
    refine hs_iconst (v := (0 : Int32)) dL_law_2080 (by decide) ?_
    obtain rfl := Option.some.inj h
    exact hs_ireturn dL_law_2081 rfl (by decide) (fun h => by cases h)
set_option maxHeartbeats 4000000 in
set_option maxRecDepth 20000 in
theorem c_L_law_b2043 {G : hb_G} {l : Launch} (hl : l.stackTraces = false) {n : Nat}  (k23 : Nat → Nat → Nat → Int32 → hb_M → Option (Int32 × hb_M)) (hk23 : ∀ (x1 : Nat) (x2 : Nat) (x3 : Nat) (x4 : Int32) (σ : hb_M) (r : (Int32 × hb_M)), k23 x1 x2 x3 x4 σ = some r → hb_T G l true mL_law 83 (3 * n) (18 * n) 23 [(0, .retAddr 0), (1, .ref x1), (2, .ref x2), (3, .ref x3), (4, .int x4)] [] σ (.inl (some (.int r.1)), r.2))  {x1 : Nat} {x2 : Nat} {x3 : Nat} {x4 : Int32} {σ : hb_M} {r : (Int32 × hb_M)} (h : f_L_law_b2043 G.2.2.2.2.1 G.2.2.2.2.2 k23 x1 x2 x3 x4 σ = some r) : hb_T G l true mL_law 83 (3 * n) (18 * n) 2043 [(0, .retAddr 0), (1, .ref x1), (2, .ref x2), (3, .ref x3), (4, .int x4)] [] σ (.inl (some (.int r.1)), r.2) := by
  unfold f_L_law_b2043 at h
  refine hs_goto (tgt := 2704) dL_law_2043 (by decide) ?_
  refine hs_sub (lv' := [(0, .retAddr 0), (1, .ref x1), (2, .ref x2), (3, .ref x3), (4, .int x4)]) [0, 1, 2, 3, 4] rfl ?_
  refine hs_weak (rc' := (3 * n)) (rs' := (18 * n)) (by omega) (by omega) ?_
  exact c_L_law_b2704 hl k23 hk23 h
set_option maxHeartbeats 4000000 in
set_option maxRecDepth 20000 in
theorem c_L_law_b2010 {G : hb_G} {l : Launch} (hl : l.stackTraces = false) {n : Nat}  (k23 : Nat → Nat → Nat → Int32 → hb_M → Option (Int32 × hb_M)) (hk23 : ∀ (x1 : Nat) (x2 : Nat) (x3 : Nat) (x4 : Int32) (σ : hb_M) (r : (Int32 × hb_M)), k23 x1 x2 x3 x4 σ = some r → hb_T G l true mL_law 83 (3 * n) (18 * n) 23 [(0, .retAddr 0), (1, .ref x1), (2, .ref x2), (3, .ref x3), (4, .int x4)] [] σ (.inl (some (.int r.1)), r.2))  {x1 : Nat} {x2 : Nat} {x3 : Nat} {x4 : Int32} {x5 : Int32} {s0 : Nat} {s1 : Int32} {s2 : Int32} {s3 : Int32} {σ : hb_M} {r : (Int32 × hb_M)} (h : f_L_law_b2010 G.2.2.2.2.1 G.2.2.2.2.2 k23 x1 x2 x3 x4 x5 s0 s1 s2 s3 σ = some r) : hb_T G l true mL_law 83 (3 * n) (18 * n) 2010 [(0, .retAddr 0), (1, .ref x1), (2, .ref x2), (3, .ref x3), (4, .int x4), (5, .int x5)] [.int s3, .int s2, .int s1, .ref s0] σ (.inl (some (.int r.1)), r.2) := by
  unfold f_L_law_b2010 at h
  refine hs_weak (rc' := 0 + 3 * n) (rs' := 0 + 18 * n) (by omega) (by omega) ?_
  obtain ⟨r1, h1, h⟩ := hb_bind h
  obtain ⟨h1, nf1, hb1⟩ := hb_on_at h1
  refine hs_callVi (μ' := mX9_group) (mc := 0) (ms := 0) (rc := (3 * n)) (rs := (18 * n)) (As := [.int s1, .int s2, .int s3]) (rest := []) (ci := 9) dL_law_2010 lmL_241 okX9_group rfl (by decide) rfl (Nat.le_of_ble_eq_true rfl) rfl hb1 (c_X9_group h1) ?_
  refine hs_istore (lv' := [(6, .int r1.1), (0, .retAddr 0), (1, .ref x1), (2, .ref x2), (3, .ref x3), (4, .int x4), (5, .int x5)]) dL_law_2013 (by decide) rfl ?_
  refine hs_aload_n dL_law_2015 3 rfl ?_
  refine hs_weak (rc' := 0 + 3 * n) (rs' := 0 + 18 * n) (by omega) (by omega) ?_
  obtain ⟨r2, h2, h⟩ := hb_bind h
  obtain ⟨h2, nf2, hb2⟩ := hb_on_at h2
  refine hs_callVi (μ' := mX9_thrown) (mc := 0) (ms := 0) (rc := (3 * n)) (rs := (18 * n)) (As := []) (rest := []) (ci := 9) dL_law_2016 lmL_140 okX9_thrown rfl (by decide) rfl (Nat.le_of_ble_eq_true rfl) rfl hb2 (c_X9_thrown h2) ?_
  refine hs_iload dL_law_2019 6 rfl ?_
  refine hs_icmp_eq (tgt := 2026) dL_law_2021 (by decide) (fun hc3 => ?_) (fun hc3 => ?_)
  · rw [if_pos hc3] at h
    refine hs_iload dL_law_2026 6 rfl ?_
    refine hs_if_ne (tgt := 2043) dL_law_2028 (by decide) (fun hc4 => ?_) (fun hc4 => ?_)
    · rw [if_neg hc4] at h
      refine hs_sub (lv' := [(0, .retAddr 0), (1, .ref x1), (2, .ref x2), (3, .ref x3), (4, .int x4)]) [1, 2, 3, 4, 5] rfl ?_
      refine hs_weak (rc' := (3 * n)) (rs' := (18 * n)) (by omega) (by omega) ?_
      exact c_L_law_b2043 hl k23 hk23 h
    · rw [if_pos hc4] at h
      refine hs_aload_n dL_law_2031 4 rfl ?_
      refine hs_iconst (v := (0 : Int32)) dL_law_2032 (by decide) ?_
      obtain ⟨r5, h5, h⟩ := hb_bind h
      refine hs_lald dL_law_2033 h5 ?_
      refine hs_iload dL_law_2034 0 rfl ?_
      refine hs_i2l dL_law_2036 ?_
      refine hs_lcmp dL_law_2037 ?_
      refine hs_if_eq (tgt := 2043) dL_law_2038 (by decide) (fun hc6 => ?_) (fun hc6 => ?_)
      · rw [if_pos hc6] at h
        refine hs_sub (lv' := [(0, .retAddr 0), (1, .ref x1), (2, .ref x2), (3, .ref x3), (4, .int x4)]) [1, 2, 3, 4, 5] rfl ?_
        refine hs_weak (rc' := (3 * n)) (rs' := (18 * n)) (by omega) (by omega) ?_
        exact c_L_law_b2043 hl k23 hk23 h
      · rw [if_neg hc6] at h
        refine hs_iconst (v := (0 : Int32)) dL_law_2041 (by decide) ?_
        obtain rfl := Option.some.inj h
        exact hs_ireturn dL_law_2042 rfl (by decide) (fun h => by cases h)
  · rw [if_neg hc3] at h
    refine hs_iconst (v := (0 : Int32)) dL_law_2024 (by decide) ?_
    obtain rfl := Option.some.inj h
    exact hs_ireturn dL_law_2025 rfl (by decide) (fun h => by cases h)
set_option maxHeartbeats 4000000 in
set_option maxRecDepth 20000 in
theorem c_L_law_b1977 {G : hb_G} {l : Launch} (hl : l.stackTraces = false) {n : Nat}  (k23 : Nat → Nat → Nat → Int32 → hb_M → Option (Int32 × hb_M)) (hk23 : ∀ (x1 : Nat) (x2 : Nat) (x3 : Nat) (x4 : Int32) (σ : hb_M) (r : (Int32 × hb_M)), k23 x1 x2 x3 x4 σ = some r → hb_T G l true mL_law 83 (3 * n) (18 * n) 23 [(0, .retAddr 0), (1, .ref x1), (2, .ref x2), (3, .ref x3), (4, .int x4)] [] σ (.inl (some (.int r.1)), r.2))  {x1 : Nat} {x2 : Nat} {x3 : Nat} {x4 : Int32} {s0 : Nat} {s1 : Int32} {s2 : Int32} {s3 : Int32} {σ : hb_M} {r : (Int32 × hb_M)} (h : f_L_law_b1977 G.2.2.2.2.1 G.2.2.2.2.2 k23 x1 x2 x3 x4 s0 s1 s2 s3 σ = some r) : hb_T G l true mL_law 83 (3 * n) (18 * n) 1977 [(0, .retAddr 0), (1, .ref x1), (2, .ref x2), (3, .ref x3), (4, .int x4)] [.int s3, .int s2, .int s1, .ref s0] σ (.inl (some (.int r.1)), r.2) := by
  unfold f_L_law_b1977 at h
  refine hs_aload_n dL_law_1977 3 rfl ?_
  refine hs_weak (rc' := 1 + 3 * n) (rs' := 6 + 18 * n) (by omega) (by omega) ?_
  obtain ⟨r1, h1, h⟩ := hb_bind h
  refine hs_callSXi (μ' := mL_group) (mc := 1) (ms := 6) (rc := (3 * n)) (rs := (18 * n)) (As := [.ref s0, .int s1, .int s2, .int s3, .ref x3]) (rest := []) dL_law_1978 lmL_238 okL_group rfl (by decide) rfl (Nat.le_of_ble_eq_true rfl) (c_L_group hl h1) ?_
  refine hs_istore (lv' := [(5, .int r1.1), (0, .retAddr 0), (1, .ref x1), (2, .ref x2), (3, .ref x3), (4, .int x4)]) dL_law_1981 (by decide) rfl ?_
  refine hs_aload_n dL_law_1983 3 rfl ?_
  refine hs_sload_n dL_law_1984 1 rfl ?_
  refine hs_iload dL_law_1985 5 rfl ?_
  refine hs_iconst (v := (1 : Int32)) dL_law_1987 (by decide) ?_
  refine hs_iadd dL_law_1988 ?_
  obtain ⟨r2, h2, h⟩ := hb_bind h
  refine hs_iald dL_law_1989 h2 ?_
  refine hs_sload_n dL_law_1990 1 rfl ?_
  refine hs_iload dL_law_1991 5 rfl ?_
  refine hs_iconst (v := (2 : Int32)) dL_law_1993 (by decide) ?_
  refine hs_iadd dL_law_1994 ?_
  obtain ⟨r3, h3, h⟩ := hb_bind h
  refine hs_iald dL_law_1995 h3 ?_
  refine hs_sload_n dL_law_1996 1 rfl ?_
  refine hs_iload dL_law_1997 5 rfl ?_
  refine hs_iconst (v := (3 : Int32)) dL_law_1999 (by decide) ?_
  refine hs_iadd dL_law_2000 ?_
  obtain ⟨r4, h4, h⟩ := hb_bind h
  refine hs_iald dL_law_2001 h4 ?_
  refine hs_if_eq (tgt := 2009) dL_law_2002 (by decide) (fun hc5 => ?_) (fun hc5 => ?_)
  · rw [if_pos hc5] at h
    refine hs_iconst (v := (0 : Int32)) dL_law_2009 (by decide) ?_
    refine hs_sub (lv' := [(0, .retAddr 0), (1, .ref x1), (2, .ref x2), (3, .ref x3), (4, .int x4), (5, .int r1.1)]) [1, 2, 3, 4, 5, 0] rfl ?_
    refine hs_weak (rc' := (3 * n)) (rs' := (18 * n)) (by omega) (by omega) ?_
    exact c_L_law_b2010 hl k23 hk23 h
  · rw [if_neg hc5] at h
    refine hs_iconst (v := (1 : Int32)) dL_law_2005 (by decide) ?_
    refine hs_goto (tgt := 2010) dL_law_2006 (by decide) ?_
    refine hs_sub (lv' := [(0, .retAddr 0), (1, .ref x1), (2, .ref x2), (3, .ref x3), (4, .int x4), (5, .int r1.1)]) [1, 2, 3, 4, 5, 0] rfl ?_
    refine hs_weak (rc' := (3 * n)) (rs' := (18 * n)) (by omega) (by omega) ?_
    exact c_L_law_b2010 hl k23 hk23 h
set_option maxHeartbeats 4000000 in
set_option maxRecDepth 20000 in
theorem c_L_law_b1950 {G : hb_G} {l : Launch} (hl : l.stackTraces = false) {n : Nat}  (k23 : Nat → Nat → Nat → Int32 → hb_M → Option (Int32 × hb_M)) (hk23 : ∀ (x1 : Nat) (x2 : Nat) (x3 : Nat) (x4 : Int32) (σ : hb_M) (r : (Int32 × hb_M)), k23 x1 x2 x3 x4 σ = some r → hb_T G l true mL_law 83 (3 * n) (18 * n) 23 [(0, .retAddr 0), (1, .ref x1), (2, .ref x2), (3, .ref x3), (4, .int x4)] [] σ (.inl (some (.int r.1)), r.2))  {x1 : Nat} {x2 : Nat} {x3 : Nat} {x4 : Int32} {σ : hb_M} {r : (Int32 × hb_M)} (h : f_L_law_b1950 G.2.2.2.2.1 G.2.2.2.2.2 k23 x1 x2 x3 x4 σ = some r) : hb_T G l true mL_law 83 (3 * n + 3) (18 * n + 18) 1950 [(0, .retAddr 0), (1, .ref x1), (2, .ref x2), (3, .ref x3), (4, .int x4)] [] σ (.inl (some (.int r.1)), r.2) := by
  unfold f_L_law_b1950 at h
  refine hs_aload_n dL_law_1950 1 rfl ?_
  refine hs_sload_n dL_law_1951 0 rfl ?_
  refine hs_iload dL_law_1952 4 rfl ?_
  refine hs_iconst (v := (1 : Int32)) dL_law_1954 (by decide) ?_
  refine hs_iadd dL_law_1955 ?_
  obtain ⟨r1, h1, h⟩ := hb_bind h
  refine hs_iald dL_law_1956 h1 ?_
  refine hs_sload_n dL_law_1957 0 rfl ?_
  refine hs_iload dL_law_1958 4 rfl ?_
  refine hs_iconst (v := (2 : Int32)) dL_law_1960 (by decide) ?_
  refine hs_iadd dL_law_1961 ?_
  obtain ⟨r2, h2, h⟩ := hb_bind h
  refine hs_iald dL_law_1962 h2 ?_
  refine hs_sload_n dL_law_1963 0 rfl ?_
  refine hs_iload dL_law_1964 4 rfl ?_
  refine hs_iconst (v := (3 : Int32)) dL_law_1966 (by decide) ?_
  refine hs_iadd dL_law_1967 ?_
  obtain ⟨r3, h3, h⟩ := hb_bind h
  refine hs_iald dL_law_1968 h3 ?_
  refine hs_if_eq (tgt := 1976) dL_law_1969 (by decide) (fun hc4 => ?_) (fun hc4 => ?_)
  · rw [if_pos hc4] at h
    refine hs_iconst (v := (0 : Int32)) dL_law_1976 (by decide) ?_
    refine hs_sub (lv' := [(0, .retAddr 0), (1, .ref x1), (2, .ref x2), (3, .ref x3), (4, .int x4)]) [0, 1, 2, 3, 4] rfl ?_
    refine hs_weak (rc' := (3 * n)) (rs' := (18 * n)) (by omega) (by omega) ?_
    exact c_L_law_b1977 hl k23 hk23 h
  · rw [if_neg hc4] at h
    refine hs_iconst (v := (1 : Int32)) dL_law_1972 (by decide) ?_
    refine hs_goto (tgt := 1977) dL_law_1973 (by decide) ?_
    refine hs_sub (lv' := [(0, .retAddr 0), (1, .ref x1), (2, .ref x2), (3, .ref x3), (4, .int x4)]) [0, 1, 2, 3, 4] rfl ?_
    refine hs_weak (rc' := (3 * n)) (rs' := (18 * n)) (by omega) (by omega) ?_
    exact c_L_law_b1977 hl k23 hk23 h
set_option maxHeartbeats 4000000 in
set_option maxRecDepth 20000 in
theorem c_L_law_b1947 {G : hb_G} {l : Launch} (hl : l.stackTraces = false) {n : Nat}  (k23 : Nat → Nat → Nat → Int32 → hb_M → Option (Int32 × hb_M)) (hk23 : ∀ (x1 : Nat) (x2 : Nat) (x3 : Nat) (x4 : Int32) (σ : hb_M) (r : (Int32 × hb_M)), k23 x1 x2 x3 x4 σ = some r → hb_T G l true mL_law 83 (3 * n) (18 * n) 23 [(0, .retAddr 0), (1, .ref x1), (2, .ref x2), (3, .ref x3), (4, .int x4)] [] σ (.inl (some (.int r.1)), r.2))  {x1 : Nat} {x2 : Nat} {x3 : Nat} {x4 : Int32} {σ : hb_M} {r : (Int32 × hb_M)} (h : f_L_law_b1947 G.2.2.2.2.1 G.2.2.2.2.2 k23 x1 x2 x3 x4 σ = some r) : hb_T G l true mL_law 83 (3 * n) (18 * n) 1947 [(0, .retAddr 0), (1, .ref x1), (2, .ref x2), (3, .ref x3), (4, .int x4)] [] σ (.inl (some (.int r.1)), r.2) := by
  unfold f_L_law_b1947 at h
  refine hs_goto (tgt := 2704) dL_law_1947 (by decide) ?_
  refine hs_sub (lv' := [(0, .retAddr 0), (1, .ref x1), (2, .ref x2), (3, .ref x3), (4, .int x4)]) [0, 1, 2, 3, 4] rfl ?_
  refine hs_weak (rc' := (3 * n)) (rs' := (18 * n)) (by omega) (by omega) ?_
  exact c_L_law_b2704 hl k23 hk23 h
set_option maxHeartbeats 4000000 in
set_option maxRecDepth 20000 in
theorem c_L_law_b1894 {G : hb_G} {l : Launch} (hl : l.stackTraces = false) {n : Nat}  (k23 : Nat → Nat → Nat → Int32 → hb_M → Option (Int32 × hb_M)) (hk23 : ∀ (x1 : Nat) (x2 : Nat) (x3 : Nat) (x4 : Int32) (σ : hb_M) (r : (Int32 × hb_M)), k23 x1 x2 x3 x4 σ = some r → hb_T G l true mL_law 83 (3 * n) (18 * n) 23 [(0, .retAddr 0), (1, .ref x1), (2, .ref x2), (3, .ref x3), (4, .int x4)] [] σ (.inl (some (.int r.1)), r.2))  {x1 : Nat} {x2 : Nat} {x3 : Nat} {x4 : Int32} {σ : hb_M} {r : (Int32 × hb_M)} (h : f_L_law_b1894 G.2.2.2.2.1 G.2.2.2.2.2 k23 x1 x2 x3 x4 σ = some r) : hb_T G l true mL_law 83 (3 * n + 3) (18 * n + 18) 1894 [(0, .retAddr 0), (1, .ref x1), (2, .ref x2), (3, .ref x3), (4, .int x4)] [] σ (.inl (some (.int r.1)), r.2) := by
  unfold f_L_law_b1894 at h
  refine hs_aload_n dL_law_1894 1 rfl ?_
  refine hs_sload_n dL_law_1895 0 rfl ?_
  refine hs_iload dL_law_1896 4 rfl ?_
  refine hs_iconst (v := (1 : Int32)) dL_law_1898 (by decide) ?_
  refine hs_iadd dL_law_1899 ?_
  obtain ⟨r1, h1, h⟩ := hb_bind h
  refine hs_iald dL_law_1900 h1 ?_
  refine hs_aload_n dL_law_1901 3 rfl ?_
  refine hs_weak (rc' := 1 + 3 * n) (rs' := 6 + 18 * n) (by omega) (by omega) ?_
  obtain ⟨r2, h2, h⟩ := hb_bind h
  refine hs_callSXi (μ' := mL_freedByUnrooting) (mc := 1) (ms := 6) (rc := (3 * n)) (rs := (18 * n)) (As := [.ref x1, .int r1, .ref x3]) (rest := []) dL_law_1902 lmL_235 okL_freedByUnrooting rfl (by decide) rfl (Nat.le_of_ble_eq_true rfl) (c_L_freedByUnrooting hl h2) ?_
  refine hs_istore (lv' := [(5, .int r2.1), (0, .retAddr 0), (1, .ref x1), (2, .ref x2), (3, .ref x3), (4, .int x4)]) dL_law_1905 (by decide) rfl ?_
  refine hs_aload_n dL_law_1907 3 rfl ?_
  refine hs_sload_n dL_law_1908 1 rfl ?_
  refine hs_iload dL_law_1909 5 rfl ?_
  refine hs_iconst (v := (1 : Int32)) dL_law_1911 (by decide) ?_
  refine hs_iadd dL_law_1912 ?_
  obtain ⟨r3, h3, h⟩ := hb_bind h
  refine hs_iald dL_law_1913 h3 ?_
  refine hs_weak (rc' := 0 + 3 * n) (rs' := 0 + 18 * n) (by omega) (by omega) ?_
  obtain ⟨r4, h4, h⟩ := hb_bind h
  obtain ⟨h4, nf4, hb4⟩ := hb_on_at h4
  refine hs_callVi (μ' := mX9_freedByUnrooting) (mc := 0) (ms := 0) (rc := (3 * n)) (rs := (18 * n)) (As := [.int r3]) (rest := []) (ci := 9) dL_law_1914 lmL_237 okX9_freedByUnrooting rfl (by decide) rfl (Nat.le_of_ble_eq_true rfl) rfl hb4 (c_X9_freedByUnrooting h4) ?_
  refine hs_istore (lv' := [(6, .int r4.1), (5, .int r2.1), (0, .retAddr 0), (1, .ref x1), (2, .ref x2), (3, .ref x3), (4, .int x4)]) dL_law_1917 (by decide) rfl ?_
  refine hs_aload_n dL_law_1919 4 rfl ?_
  refine hs_weak (rc' := 0 + 3 * n) (rs' := 0 + 18 * n) (by omega) (by omega) ?_
  obtain ⟨r5, h5, h⟩ := hb_bind h
  obtain ⟨h5, nf5, hb5⟩ := hb_on_at h5
  refine hs_callVi (μ' := mX9_thrown) (mc := 0) (ms := 0) (rc := (3 * n)) (rs := (18 * n)) (As := []) (rest := []) (ci := 9) dL_law_1920 lmL_140 okX9_thrown rfl (by decide) rfl (Nat.le_of_ble_eq_true rfl) rfl hb5 (c_X9_thrown h5) ?_
  refine hs_iload dL_law_1923 1 rfl ?_
  refine hs_icmp_eq (tgt := 1930) dL_law_1925 (by decide) (fun hc6 => ?_) (fun hc6 => ?_)
  · rw [if_pos hc6] at h
    refine hs_iload dL_law_1930 1 rfl ?_
    refine hs_if_ne (tgt := 1947) dL_law_1932 (by decide) (fun hc7 => ?_) (fun hc7 => ?_)
    · rw [if_neg hc7] at h
      refine hs_sub (lv' := [(0, .retAddr 0), (1, .ref x1), (2, .ref x2), (3, .ref x3), (4, .int x4)]) [2, 3, 4, 5, 6] rfl ?_
      refine hs_weak (rc' := (3 * n)) (rs' := (18 * n)) (by omega) (by omega) ?_
      exact c_L_law_b1947 hl k23 hk23 h
    · rw [if_pos hc7] at h
      refine hs_aload_n dL_law_1935 5 rfl ?_
      refine hs_iconst (v := (0 : Int32)) dL_law_1936 (by decide) ?_
      obtain ⟨r8, h8, h⟩ := hb_bind h
      refine hs_lald dL_law_1937 h8 ?_
      refine hs_iload dL_law_1938 0 rfl ?_
      refine hs_i2l dL_law_1940 ?_
      refine hs_lcmp dL_law_1941 ?_
      refine hs_if_eq (tgt := 1947) dL_law_1942 (by decide) (fun hc9 => ?_) (fun hc9 => ?_)
      · rw [if_pos hc9] at h
        refine hs_sub (lv' := [(0, .retAddr 0), (1, .ref x1), (2, .ref x2), (3, .ref x3), (4, .int x4)]) [2, 3, 4, 5, 6] rfl ?_
        refine hs_weak (rc' := (3 * n)) (rs' := (18 * n)) (by omega) (by omega) ?_
        exact c_L_law_b1947 hl k23 hk23 h
      · rw [if_neg hc9] at h
        refine hs_iconst (v := (0 : Int32)) dL_law_1945 (by decide) ?_
        obtain rfl := Option.some.inj h
        exact hs_ireturn dL_law_1946 rfl (by decide) (fun h => by cases h)
  · rw [if_neg hc6] at h
    refine hs_iconst (v := (0 : Int32)) dL_law_1928 (by decide) ?_
    obtain rfl := Option.some.inj h
    exact hs_ireturn dL_law_1929 rfl (by decide) (fun h => by cases h)
set_option maxHeartbeats 4000000 in
set_option maxRecDepth 20000 in
theorem c_L_law_b1891 {G : hb_G} {l : Launch} (hl : l.stackTraces = false) {n : Nat}  (k23 : Nat → Nat → Nat → Int32 → hb_M → Option (Int32 × hb_M)) (hk23 : ∀ (x1 : Nat) (x2 : Nat) (x3 : Nat) (x4 : Int32) (σ : hb_M) (r : (Int32 × hb_M)), k23 x1 x2 x3 x4 σ = some r → hb_T G l true mL_law 83 (3 * n) (18 * n) 23 [(0, .retAddr 0), (1, .ref x1), (2, .ref x2), (3, .ref x3), (4, .int x4)] [] σ (.inl (some (.int r.1)), r.2))  {x1 : Nat} {x2 : Nat} {x3 : Nat} {x4 : Int32} {σ : hb_M} {r : (Int32 × hb_M)} (h : f_L_law_b1891 G.2.2.2.2.1 G.2.2.2.2.2 k23 x1 x2 x3 x4 σ = some r) : hb_T G l true mL_law 83 (3 * n) (18 * n) 1891 [(0, .retAddr 0), (1, .ref x1), (2, .ref x2), (3, .ref x3), (4, .int x4)] [] σ (.inl (some (.int r.1)), r.2) := by
  unfold f_L_law_b1891 at h
  refine hs_goto (tgt := 2704) dL_law_1891 (by decide) ?_
  refine hs_sub (lv' := [(0, .retAddr 0), (1, .ref x1), (2, .ref x2), (3, .ref x3), (4, .int x4)]) [0, 1, 2, 3, 4] rfl ?_
  refine hs_weak (rc' := (3 * n)) (rs' := (18 * n)) (by omega) (by omega) ?_
  exact c_L_law_b2704 hl k23 hk23 h
set_option maxHeartbeats 4000000 in
set_option maxRecDepth 20000 in
theorem c_L_law_b1826 {G : hb_G} {l : Launch} (hl : l.stackTraces = false) {n : Nat}  (k23 : Nat → Nat → Nat → Int32 → hb_M → Option (Int32 × hb_M)) (hk23 : ∀ (x1 : Nat) (x2 : Nat) (x3 : Nat) (x4 : Int32) (σ : hb_M) (r : (Int32 × hb_M)), k23 x1 x2 x3 x4 σ = some r → hb_T G l true mL_law 83 (3 * n) (18 * n) 23 [(0, .retAddr 0), (1, .ref x1), (2, .ref x2), (3, .ref x3), (4, .int x4)] [] σ (.inl (some (.int r.1)), r.2))  {x1 : Nat} {x2 : Nat} {x3 : Nat} {x4 : Int32} {σ : hb_M} {r : (Int32 × hb_M)} (h : f_L_law_b1826 G.2.2.2.2.1 G.2.2.2.2.2 k23 x1 x2 x3 x4 σ = some r) : hb_T G l true mL_law 83 (3 * n + 3) (18 * n + 18) 1826 [(0, .retAddr 0), (1, .ref x1), (2, .ref x2), (3, .ref x3), (4, .int x4)] [] σ (.inl (some (.int r.1)), r.2) := by
  unfold f_L_law_b1826 at h
  refine hs_aload_n dL_law_1826 1 rfl ?_
  refine hs_sload_n dL_law_1827 0 rfl ?_
  refine hs_iload dL_law_1828 4 rfl ?_
  refine hs_iconst (v := (1 : Int32)) dL_law_1830 (by decide) ?_
  refine hs_iadd dL_law_1831 ?_
  obtain ⟨r1, h1, h⟩ := hb_bind h
  refine hs_iald dL_law_1832 h1 ?_
  refine hs_sload_n dL_law_1833 0 rfl ?_
  refine hs_iload dL_law_1834 4 rfl ?_
  refine hs_iconst (v := (2 : Int32)) dL_law_1836 (by decide) ?_
  refine hs_iadd dL_law_1837 ?_
  obtain ⟨r2, h2, h⟩ := hb_bind h
  refine hs_iald dL_law_1838 h2 ?_
  refine hs_aload_n dL_law_1839 3 rfl ?_
  refine hs_weak (rc' := 1 + 3 * n) (rs' := 6 + 18 * n) (by omega) (by omega) ?_
  obtain ⟨r3, h3, h⟩ := hb_bind h
  refine hs_callSXi (μ' := mL_freedByClearing) (mc := 1) (ms := 6) (rc := (3 * n)) (rs := (18 * n)) (As := [.ref x1, .int r1, .int r2, .ref x3]) (rest := []) dL_law_1840 lmL_232 okL_freedByClearing rfl (by decide) rfl (Nat.le_of_ble_eq_true rfl) (c_L_freedByClearing hl h3) ?_
  refine hs_istore (lv' := [(5, .int r3.1), (0, .retAddr 0), (1, .ref x1), (2, .ref x2), (3, .ref x3), (4, .int x4)]) dL_law_1843 (by decide) rfl ?_
  refine hs_aload_n dL_law_1845 3 rfl ?_
  refine hs_sload_n dL_law_1846 1 rfl ?_
  refine hs_iload dL_law_1847 5 rfl ?_
  refine hs_iconst (v := (1 : Int32)) dL_law_1849 (by decide) ?_
  refine hs_iadd dL_law_1850 ?_
  obtain ⟨r4, h4, h⟩ := hb_bind h
  refine hs_iald dL_law_1851 h4 ?_
  refine hs_sload_n dL_law_1852 1 rfl ?_
  refine hs_iload dL_law_1853 5 rfl ?_
  refine hs_iconst (v := (2 : Int32)) dL_law_1855 (by decide) ?_
  refine hs_iadd dL_law_1856 ?_
  obtain ⟨r5, h5, h⟩ := hb_bind h
  refine hs_iald dL_law_1857 h5 ?_
  refine hs_weak (rc' := 0 + 3 * n) (rs' := 0 + 18 * n) (by omega) (by omega) ?_
  obtain ⟨r6, h6, h⟩ := hb_bind h
  obtain ⟨h6, nf6, hb6⟩ := hb_on_at h6
  refine hs_callVi (μ' := mX9_freedByClearing) (mc := 0) (ms := 0) (rc := (3 * n)) (rs := (18 * n)) (As := [.int r4, .int r5]) (rest := []) (ci := 9) dL_law_1858 lmL_234 okX9_freedByClearing rfl (by decide) rfl (Nat.le_of_ble_eq_true rfl) rfl hb6 (c_X9_freedByClearing h6) ?_
  refine hs_istore (lv' := [(6, .int r6.1), (5, .int r3.1), (0, .retAddr 0), (1, .ref x1), (2, .ref x2), (3, .ref x3), (4, .int x4)]) dL_law_1861 (by decide) rfl ?_
  refine hs_aload_n dL_law_1863 4 rfl ?_
  refine hs_weak (rc' := 0 + 3 * n) (rs' := 0 + 18 * n) (by omega) (by omega) ?_
  obtain ⟨r7, h7, h⟩ := hb_bind h
  obtain ⟨h7, nf7, hb7⟩ := hb_on_at h7
  refine hs_callVi (μ' := mX9_thrown) (mc := 0) (ms := 0) (rc := (3 * n)) (rs := (18 * n)) (As := []) (rest := []) (ci := 9) dL_law_1864 lmL_140 okX9_thrown rfl (by decide) rfl (Nat.le_of_ble_eq_true rfl) rfl hb7 (c_X9_thrown h7) ?_
  refine hs_iload dL_law_1867 1 rfl ?_
  refine hs_icmp_eq (tgt := 1874) dL_law_1869 (by decide) (fun hc8 => ?_) (fun hc8 => ?_)
  · rw [if_pos hc8] at h
    refine hs_iload dL_law_1874 1 rfl ?_
    refine hs_if_ne (tgt := 1891) dL_law_1876 (by decide) (fun hc9 => ?_) (fun hc9 => ?_)
    · rw [if_neg hc9] at h
      refine hs_sub (lv' := [(0, .retAddr 0), (1, .ref x1), (2, .ref x2), (3, .ref x3), (4, .int x4)]) [2, 3, 4, 5, 6] rfl ?_
      refine hs_weak (rc' := (3 * n)) (rs' := (18 * n)) (by omega) (by omega) ?_
      exact c_L_law_b1891 hl k23 hk23 h
    · rw [if_pos hc9] at h
      refine hs_aload_n dL_law_1879 5 rfl ?_
      refine hs_iconst (v := (0 : Int32)) dL_law_1880 (by decide) ?_
      obtain ⟨r10, h10, h⟩ := hb_bind h
      refine hs_lald dL_law_1881 h10 ?_
      refine hs_iload dL_law_1882 0 rfl ?_
      refine hs_i2l dL_law_1884 ?_
      refine hs_lcmp dL_law_1885 ?_
      refine hs_if_eq (tgt := 1891) dL_law_1886 (by decide) (fun hc11 => ?_) (fun hc11 => ?_)
      · rw [if_pos hc11] at h
        refine hs_sub (lv' := [(0, .retAddr 0), (1, .ref x1), (2, .ref x2), (3, .ref x3), (4, .int x4)]) [2, 3, 4, 5, 6] rfl ?_
        refine hs_weak (rc' := (3 * n)) (rs' := (18 * n)) (by omega) (by omega) ?_
        exact c_L_law_b1891 hl k23 hk23 h
      · rw [if_neg hc11] at h
        refine hs_iconst (v := (0 : Int32)) dL_law_1889 (by decide) ?_
        obtain rfl := Option.some.inj h
        exact hs_ireturn dL_law_1890 rfl (by decide) (fun h => by cases h)
  · rw [if_neg hc8] at h
    refine hs_iconst (v := (0 : Int32)) dL_law_1872 (by decide) ?_
    obtain rfl := Option.some.inj h
    exact hs_ireturn dL_law_1873 rfl (by decide) (fun h => by cases h)
set_option maxHeartbeats 4000000 in
set_option maxRecDepth 20000 in
theorem c_L_law_b1823 {G : hb_G} {l : Launch} (hl : l.stackTraces = false) {n : Nat}  (k23 : Nat → Nat → Nat → Int32 → hb_M → Option (Int32 × hb_M)) (hk23 : ∀ (x1 : Nat) (x2 : Nat) (x3 : Nat) (x4 : Int32) (σ : hb_M) (r : (Int32 × hb_M)), k23 x1 x2 x3 x4 σ = some r → hb_T G l true mL_law 83 (3 * n) (18 * n) 23 [(0, .retAddr 0), (1, .ref x1), (2, .ref x2), (3, .ref x3), (4, .int x4)] [] σ (.inl (some (.int r.1)), r.2))  {x1 : Nat} {x2 : Nat} {x3 : Nat} {x4 : Int32} {σ : hb_M} {r : (Int32 × hb_M)} (h : f_L_law_b1823 G.2.2.2.2.1 G.2.2.2.2.2 k23 x1 x2 x3 x4 σ = some r) : hb_T G l true mL_law 83 (3 * n) (18 * n) 1823 [(0, .retAddr 0), (1, .ref x1), (2, .ref x2), (3, .ref x3), (4, .int x4)] [] σ (.inl (some (.int r.1)), r.2) := by
  unfold f_L_law_b1823 at h
  refine hs_goto (tgt := 2704) dL_law_1823 (by decide) ?_
  refine hs_sub (lv' := [(0, .retAddr 0), (1, .ref x1), (2, .ref x2), (3, .ref x3), (4, .int x4)]) [0, 1, 2, 3, 4] rfl ?_
  refine hs_weak (rc' := (3 * n)) (rs' := (18 * n)) (by omega) (by omega) ?_
  exact c_L_law_b2704 hl k23 hk23 h
set_option maxHeartbeats 4000000 in
set_option maxRecDepth 20000 in
theorem c_L_law_b1770 {G : hb_G} {l : Launch} (hl : l.stackTraces = false) {n : Nat}  (k23 : Nat → Nat → Nat → Int32 → hb_M → Option (Int32 × hb_M)) (hk23 : ∀ (x1 : Nat) (x2 : Nat) (x3 : Nat) (x4 : Int32) (σ : hb_M) (r : (Int32 × hb_M)), k23 x1 x2 x3 x4 σ = some r → hb_T G l true mL_law 83 (3 * n) (18 * n) 23 [(0, .retAddr 0), (1, .ref x1), (2, .ref x2), (3, .ref x3), (4, .int x4)] [] σ (.inl (some (.int r.1)), r.2))  {x1 : Nat} {x2 : Nat} {x3 : Nat} {x4 : Int32} {σ : hb_M} {r : (Int32 × hb_M)} (h : f_L_law_b1770 G.2.2.2.2.1 G.2.2.2.2.2 k23 x1 x2 x3 x4 σ = some r) : hb_T G l true mL_law 83 (3 * n + 3) (18 * n + 18) 1770 [(0, .retAddr 0), (1, .ref x1), (2, .ref x2), (3, .ref x3), (4, .int x4)] [] σ (.inl (some (.int r.1)), r.2) := by
  unfold f_L_law_b1770 at h
  refine hs_aload_n dL_law_1770 1 rfl ?_
  refine hs_sload_n dL_law_1771 0 rfl ?_
  refine hs_iload dL_law_1772 4 rfl ?_
  refine hs_iconst (v := (1 : Int32)) dL_law_1774 (by decide) ?_
  refine hs_iadd dL_law_1775 ?_
  obtain ⟨r1, h1, h⟩ := hb_bind h
  refine hs_iald dL_law_1776 h1 ?_
  refine hs_aload_n dL_law_1777 3 rfl ?_
  refine hs_weak (rc' := 1 + 3 * n) (rs' := 6 + 18 * n) (by omega) (by omega) ?_
  obtain ⟨r2, h2, h⟩ := hb_bind h
  refine hs_callSXi (μ' := mL_componentSize) (mc := 1) (ms := 6) (rc := (3 * n)) (rs := (18 * n)) (As := [.ref x1, .int r1, .ref x3]) (rest := []) dL_law_1778 lmL_229 okL_componentSize rfl (by decide) rfl (Nat.le_of_ble_eq_true rfl) (c_L_componentSize hl h2) ?_
  refine hs_istore (lv' := [(5, .int r2.1), (0, .retAddr 0), (1, .ref x1), (2, .ref x2), (3, .ref x3), (4, .int x4)]) dL_law_1781 (by decide) rfl ?_
  refine hs_aload_n dL_law_1783 3 rfl ?_
  refine hs_sload_n dL_law_1784 1 rfl ?_
  refine hs_iload dL_law_1785 5 rfl ?_
  refine hs_iconst (v := (1 : Int32)) dL_law_1787 (by decide) ?_
  refine hs_iadd dL_law_1788 ?_
  obtain ⟨r3, h3, h⟩ := hb_bind h
  refine hs_iald dL_law_1789 h3 ?_
  refine hs_weak (rc' := 0 + 3 * n) (rs' := 0 + 18 * n) (by omega) (by omega) ?_
  obtain ⟨r4, h4, h⟩ := hb_bind h
  obtain ⟨h4, nf4, hb4⟩ := hb_on_at h4
  refine hs_callVi (μ' := mX9_componentSize) (mc := 0) (ms := 0) (rc := (3 * n)) (rs := (18 * n)) (As := [.int r3]) (rest := []) (ci := 9) dL_law_1790 lmL_231 okX9_componentSize rfl (by decide) rfl (Nat.le_of_ble_eq_true rfl) rfl hb4 (c_X9_componentSize h4) ?_
  refine hs_istore (lv' := [(6, .int r4.1), (5, .int r2.1), (0, .retAddr 0), (1, .ref x1), (2, .ref x2), (3, .ref x3), (4, .int x4)]) dL_law_1793 (by decide) rfl ?_
  refine hs_aload_n dL_law_1795 4 rfl ?_
  refine hs_weak (rc' := 0 + 3 * n) (rs' := 0 + 18 * n) (by omega) (by omega) ?_
  obtain ⟨r5, h5, h⟩ := hb_bind h
  obtain ⟨h5, nf5, hb5⟩ := hb_on_at h5
  refine hs_callVi (μ' := mX9_thrown) (mc := 0) (ms := 0) (rc := (3 * n)) (rs := (18 * n)) (As := []) (rest := []) (ci := 9) dL_law_1796 lmL_140 okX9_thrown rfl (by decide) rfl (Nat.le_of_ble_eq_true rfl) rfl hb5 (c_X9_thrown h5) ?_
  refine hs_iload dL_law_1799 1 rfl ?_
  refine hs_icmp_eq (tgt := 1806) dL_law_1801 (by decide) (fun hc6 => ?_) (fun hc6 => ?_)
  · rw [if_pos hc6] at h
    refine hs_iload dL_law_1806 1 rfl ?_
    refine hs_if_ne (tgt := 1823) dL_law_1808 (by decide) (fun hc7 => ?_) (fun hc7 => ?_)
    · rw [if_neg hc7] at h
      refine hs_sub (lv' := [(0, .retAddr 0), (1, .ref x1), (2, .ref x2), (3, .ref x3), (4, .int x4)]) [2, 3, 4, 5, 6] rfl ?_
      refine hs_weak (rc' := (3 * n)) (rs' := (18 * n)) (by omega) (by omega) ?_
      exact c_L_law_b1823 hl k23 hk23 h
    · rw [if_pos hc7] at h
      refine hs_aload_n dL_law_1811 5 rfl ?_
      refine hs_iconst (v := (0 : Int32)) dL_law_1812 (by decide) ?_
      obtain ⟨r8, h8, h⟩ := hb_bind h
      refine hs_lald dL_law_1813 h8 ?_
      refine hs_iload dL_law_1814 0 rfl ?_
      refine hs_i2l dL_law_1816 ?_
      refine hs_lcmp dL_law_1817 ?_
      refine hs_if_eq (tgt := 1823) dL_law_1818 (by decide) (fun hc9 => ?_) (fun hc9 => ?_)
      · rw [if_pos hc9] at h
        refine hs_sub (lv' := [(0, .retAddr 0), (1, .ref x1), (2, .ref x2), (3, .ref x3), (4, .int x4)]) [2, 3, 4, 5, 6] rfl ?_
        refine hs_weak (rc' := (3 * n)) (rs' := (18 * n)) (by omega) (by omega) ?_
        exact c_L_law_b1823 hl k23 hk23 h
      · rw [if_neg hc9] at h
        refine hs_iconst (v := (0 : Int32)) dL_law_1821 (by decide) ?_
        obtain rfl := Option.some.inj h
        exact hs_ireturn dL_law_1822 rfl (by decide) (fun h => by cases h)
  · rw [if_neg hc6] at h
    refine hs_iconst (v := (0 : Int32)) dL_law_1804 (by decide) ?_
    obtain rfl := Option.some.inj h
    exact hs_ireturn dL_law_1805 rfl (by decide) (fun h => by cases h)
set_option maxHeartbeats 4000000 in
set_option maxRecDepth 20000 in
theorem c_L_law_b1767 {G : hb_G} {l : Launch} (hl : l.stackTraces = false) {n : Nat}  (k23 : Nat → Nat → Nat → Int32 → hb_M → Option (Int32 × hb_M)) (hk23 : ∀ (x1 : Nat) (x2 : Nat) (x3 : Nat) (x4 : Int32) (σ : hb_M) (r : (Int32 × hb_M)), k23 x1 x2 x3 x4 σ = some r → hb_T G l true mL_law 83 (3 * n) (18 * n) 23 [(0, .retAddr 0), (1, .ref x1), (2, .ref x2), (3, .ref x3), (4, .int x4)] [] σ (.inl (some (.int r.1)), r.2))  {x1 : Nat} {x2 : Nat} {x3 : Nat} {x4 : Int32} {σ : hb_M} {r : (Int32 × hb_M)} (h : f_L_law_b1767 G.2.2.2.2.1 G.2.2.2.2.2 k23 x1 x2 x3 x4 σ = some r) : hb_T G l true mL_law 83 (3 * n) (18 * n) 1767 [(0, .retAddr 0), (1, .ref x1), (2, .ref x2), (3, .ref x3), (4, .int x4)] [] σ (.inl (some (.int r.1)), r.2) := by
  unfold f_L_law_b1767 at h
  refine hs_goto (tgt := 2704) dL_law_1767 (by decide) ?_
  refine hs_sub (lv' := [(0, .retAddr 0), (1, .ref x1), (2, .ref x2), (3, .ref x3), (4, .int x4)]) [0, 1, 2, 3, 4] rfl ?_
  refine hs_weak (rc' := (3 * n)) (rs' := (18 * n)) (by omega) (by omega) ?_
  exact c_L_law_b2704 hl k23 hk23 h
set_option maxHeartbeats 4000000 in
set_option maxRecDepth 20000 in
theorem c_L_law_b1714 {G : hb_G} {l : Launch} (hl : l.stackTraces = false) {n : Nat}  (k23 : Nat → Nat → Nat → Int32 → hb_M → Option (Int32 × hb_M)) (hk23 : ∀ (x1 : Nat) (x2 : Nat) (x3 : Nat) (x4 : Int32) (σ : hb_M) (r : (Int32 × hb_M)), k23 x1 x2 x3 x4 σ = some r → hb_T G l true mL_law 83 (3 * n) (18 * n) 23 [(0, .retAddr 0), (1, .ref x1), (2, .ref x2), (3, .ref x3), (4, .int x4)] [] σ (.inl (some (.int r.1)), r.2))  {x1 : Nat} {x2 : Nat} {x3 : Nat} {x4 : Int32} {σ : hb_M} {r : (Int32 × hb_M)} (h : f_L_law_b1714 G.2.2.2.2.1 G.2.2.2.2.2 k23 x1 x2 x3 x4 σ = some r) : hb_T G l true mL_law 83 (3 * n + 3) (18 * n + 18) 1714 [(0, .retAddr 0), (1, .ref x1), (2, .ref x2), (3, .ref x3), (4, .int x4)] [] σ (.inl (some (.int r.1)), r.2) := by
  unfold f_L_law_b1714 at h
  refine hs_aload_n dL_law_1714 1 rfl ?_
  refine hs_sload_n dL_law_1715 0 rfl ?_
  refine hs_iload dL_law_1716 4 rfl ?_
  refine hs_iconst (v := (1 : Int32)) dL_law_1718 (by decide) ?_
  refine hs_iadd dL_law_1719 ?_
  obtain ⟨r1, h1, h⟩ := hb_bind h
  refine hs_iald dL_law_1720 h1 ?_
  refine hs_aload_n dL_law_1721 3 rfl ?_
  refine hs_weak (rc' := 1 + 3 * n) (rs' := 6 + 18 * n) (by omega) (by omega) ?_
  obtain ⟨r2, h2, h⟩ := hb_bind h
  refine hs_callSXi (μ' := mL_component) (mc := 1) (ms := 6) (rc := (3 * n)) (rs := (18 * n)) (As := [.ref x1, .int r1, .ref x3]) (rest := []) dL_law_1722 lmL_226 okL_component rfl (by decide) rfl (Nat.le_of_ble_eq_true rfl) (c_L_component hl h2) ?_
  refine hs_istore (lv' := [(5, .int r2.1), (0, .retAddr 0), (1, .ref x1), (2, .ref x2), (3, .ref x3), (4, .int x4)]) dL_law_1725 (by decide) rfl ?_
  refine hs_aload_n dL_law_1727 3 rfl ?_
  refine hs_sload_n dL_law_1728 1 rfl ?_
  refine hs_iload dL_law_1729 5 rfl ?_
  refine hs_iconst (v := (1 : Int32)) dL_law_1731 (by decide) ?_
  refine hs_iadd dL_law_1732 ?_
  obtain ⟨r3, h3, h⟩ := hb_bind h
  refine hs_iald dL_law_1733 h3 ?_
  refine hs_weak (rc' := 0 + 3 * n) (rs' := 0 + 18 * n) (by omega) (by omega) ?_
  obtain ⟨r4, h4, h⟩ := hb_bind h
  obtain ⟨h4, nf4, hb4⟩ := hb_on_at h4
  refine hs_callVi (μ' := mX9_component) (mc := 0) (ms := 0) (rc := (3 * n)) (rs := (18 * n)) (As := [.int r3]) (rest := []) (ci := 9) dL_law_1734 lmL_228 okX9_component rfl (by decide) rfl (Nat.le_of_ble_eq_true rfl) rfl hb4 (c_X9_component h4) ?_
  refine hs_istore (lv' := [(6, .int r4.1), (5, .int r2.1), (0, .retAddr 0), (1, .ref x1), (2, .ref x2), (3, .ref x3), (4, .int x4)]) dL_law_1737 (by decide) rfl ?_
  refine hs_aload_n dL_law_1739 4 rfl ?_
  refine hs_weak (rc' := 0 + 3 * n) (rs' := 0 + 18 * n) (by omega) (by omega) ?_
  obtain ⟨r5, h5, h⟩ := hb_bind h
  obtain ⟨h5, nf5, hb5⟩ := hb_on_at h5
  refine hs_callVi (μ' := mX9_thrown) (mc := 0) (ms := 0) (rc := (3 * n)) (rs := (18 * n)) (As := []) (rest := []) (ci := 9) dL_law_1740 lmL_140 okX9_thrown rfl (by decide) rfl (Nat.le_of_ble_eq_true rfl) rfl hb5 (c_X9_thrown h5) ?_
  refine hs_iload dL_law_1743 1 rfl ?_
  refine hs_icmp_eq (tgt := 1750) dL_law_1745 (by decide) (fun hc6 => ?_) (fun hc6 => ?_)
  · rw [if_pos hc6] at h
    refine hs_iload dL_law_1750 1 rfl ?_
    refine hs_if_ne (tgt := 1767) dL_law_1752 (by decide) (fun hc7 => ?_) (fun hc7 => ?_)
    · rw [if_neg hc7] at h
      refine hs_sub (lv' := [(0, .retAddr 0), (1, .ref x1), (2, .ref x2), (3, .ref x3), (4, .int x4)]) [2, 3, 4, 5, 6] rfl ?_
      refine hs_weak (rc' := (3 * n)) (rs' := (18 * n)) (by omega) (by omega) ?_
      exact c_L_law_b1767 hl k23 hk23 h
    · rw [if_pos hc7] at h
      refine hs_aload_n dL_law_1755 5 rfl ?_
      refine hs_iconst (v := (0 : Int32)) dL_law_1756 (by decide) ?_
      obtain ⟨r8, h8, h⟩ := hb_bind h
      refine hs_lald dL_law_1757 h8 ?_
      refine hs_iload dL_law_1758 0 rfl ?_
      refine hs_i2l dL_law_1760 ?_
      refine hs_lcmp dL_law_1761 ?_
      refine hs_if_eq (tgt := 1767) dL_law_1762 (by decide) (fun hc9 => ?_) (fun hc9 => ?_)
      · rw [if_pos hc9] at h
        refine hs_sub (lv' := [(0, .retAddr 0), (1, .ref x1), (2, .ref x2), (3, .ref x3), (4, .int x4)]) [2, 3, 4, 5, 6] rfl ?_
        refine hs_weak (rc' := (3 * n)) (rs' := (18 * n)) (by omega) (by omega) ?_
        exact c_L_law_b1767 hl k23 hk23 h
      · rw [if_neg hc9] at h
        refine hs_iconst (v := (0 : Int32)) dL_law_1765 (by decide) ?_
        obtain rfl := Option.some.inj h
        exact hs_ireturn dL_law_1766 rfl (by decide) (fun h => by cases h)
  · rw [if_neg hc6] at h
    refine hs_iconst (v := (0 : Int32)) dL_law_1748 (by decide) ?_
    obtain rfl := Option.some.inj h
    exact hs_ireturn dL_law_1749 rfl (by decide) (fun h => by cases h)
set_option maxHeartbeats 4000000 in
set_option maxRecDepth 20000 in
theorem c_L_law_b1711 {G : hb_G} {l : Launch} (hl : l.stackTraces = false) {n : Nat}  (k23 : Nat → Nat → Nat → Int32 → hb_M → Option (Int32 × hb_M)) (hk23 : ∀ (x1 : Nat) (x2 : Nat) (x3 : Nat) (x4 : Int32) (σ : hb_M) (r : (Int32 × hb_M)), k23 x1 x2 x3 x4 σ = some r → hb_T G l true mL_law 83 (3 * n) (18 * n) 23 [(0, .retAddr 0), (1, .ref x1), (2, .ref x2), (3, .ref x3), (4, .int x4)] [] σ (.inl (some (.int r.1)), r.2))  {x1 : Nat} {x2 : Nat} {x3 : Nat} {x4 : Int32} {σ : hb_M} {r : (Int32 × hb_M)} (h : f_L_law_b1711 G.2.2.2.2.1 G.2.2.2.2.2 k23 x1 x2 x3 x4 σ = some r) : hb_T G l true mL_law 83 (3 * n) (18 * n) 1711 [(0, .retAddr 0), (1, .ref x1), (2, .ref x2), (3, .ref x3), (4, .int x4)] [] σ (.inl (some (.int r.1)), r.2) := by
  unfold f_L_law_b1711 at h
  refine hs_goto (tgt := 2704) dL_law_1711 (by decide) ?_
  refine hs_sub (lv' := [(0, .retAddr 0), (1, .ref x1), (2, .ref x2), (3, .ref x3), (4, .int x4)]) [0, 1, 2, 3, 4] rfl ?_
  refine hs_weak (rc' := (3 * n)) (rs' := (18 * n)) (by omega) (by omega) ?_
  exact c_L_law_b2704 hl k23 hk23 h
set_option maxHeartbeats 4000000 in
set_option maxRecDepth 20000 in
theorem c_L_law_b1658 {G : hb_G} {l : Launch} (hl : l.stackTraces = false) {n : Nat}  (k23 : Nat → Nat → Nat → Int32 → hb_M → Option (Int32 × hb_M)) (hk23 : ∀ (x1 : Nat) (x2 : Nat) (x3 : Nat) (x4 : Int32) (σ : hb_M) (r : (Int32 × hb_M)), k23 x1 x2 x3 x4 σ = some r → hb_T G l true mL_law 83 (3 * n) (18 * n) 23 [(0, .retAddr 0), (1, .ref x1), (2, .ref x2), (3, .ref x3), (4, .int x4)] [] σ (.inl (some (.int r.1)), r.2))  {x1 : Nat} {x2 : Nat} {x3 : Nat} {x4 : Int32} {σ : hb_M} {r : (Int32 × hb_M)} (h : f_L_law_b1658 G.2.2.2.2.1 G.2.2.2.2.2 k23 x1 x2 x3 x4 σ = some r) : hb_T G l true mL_law 83 (3 * n + 3) (18 * n + 18) 1658 [(0, .retAddr 0), (1, .ref x1), (2, .ref x2), (3, .ref x3), (4, .int x4)] [] σ (.inl (some (.int r.1)), r.2) := by
  unfold f_L_law_b1658 at h
  refine hs_aload_n dL_law_1658 1 rfl ?_
  refine hs_sload_n dL_law_1659 0 rfl ?_
  refine hs_iload dL_law_1660 4 rfl ?_
  refine hs_iconst (v := (1 : Int32)) dL_law_1662 (by decide) ?_
  refine hs_iadd dL_law_1663 ?_
  obtain ⟨r1, h1, h⟩ := hb_bind h
  refine hs_iald dL_law_1664 h1 ?_
  refine hs_aload_n dL_law_1665 3 rfl ?_
  refine hs_weak (rc' := 1 + 3 * n) (rs' := 6 + 18 * n) (by omega) (by omega) ?_
  obtain ⟨r2, h2, h⟩ := hb_bind h
  refine hs_callSXi (μ' := mL_retainedObjects) (mc := 1) (ms := 6) (rc := (3 * n)) (rs := (18 * n)) (As := [.ref x1, .int r1, .ref x3]) (rest := []) dL_law_1666 lmL_223 okL_retainedObjects rfl (by decide) rfl (Nat.le_of_ble_eq_true rfl) (c_L_retainedObjects hl h2) ?_
  refine hs_istore (lv' := [(5, .int r2.1), (0, .retAddr 0), (1, .ref x1), (2, .ref x2), (3, .ref x3), (4, .int x4)]) dL_law_1669 (by decide) rfl ?_
  refine hs_aload_n dL_law_1671 3 rfl ?_
  refine hs_sload_n dL_law_1672 1 rfl ?_
  refine hs_iload dL_law_1673 5 rfl ?_
  refine hs_iconst (v := (1 : Int32)) dL_law_1675 (by decide) ?_
  refine hs_iadd dL_law_1676 ?_
  obtain ⟨r3, h3, h⟩ := hb_bind h
  refine hs_iald dL_law_1677 h3 ?_
  refine hs_weak (rc' := 0 + 3 * n) (rs' := 0 + 18 * n) (by omega) (by omega) ?_
  obtain ⟨r4, h4, h⟩ := hb_bind h
  obtain ⟨h4, nf4, hb4⟩ := hb_on_at h4
  refine hs_callVi (μ' := mX9_retainedObjects) (mc := 0) (ms := 0) (rc := (3 * n)) (rs := (18 * n)) (As := [.int r3]) (rest := []) (ci := 9) dL_law_1678 lmL_225 okX9_retainedObjects rfl (by decide) rfl (Nat.le_of_ble_eq_true rfl) rfl hb4 (c_X9_retainedObjects h4) ?_
  refine hs_istore (lv' := [(6, .int r4.1), (5, .int r2.1), (0, .retAddr 0), (1, .ref x1), (2, .ref x2), (3, .ref x3), (4, .int x4)]) dL_law_1681 (by decide) rfl ?_
  refine hs_aload_n dL_law_1683 4 rfl ?_
  refine hs_weak (rc' := 0 + 3 * n) (rs' := 0 + 18 * n) (by omega) (by omega) ?_
  obtain ⟨r5, h5, h⟩ := hb_bind h
  obtain ⟨h5, nf5, hb5⟩ := hb_on_at h5
  refine hs_callVi (μ' := mX9_thrown) (mc := 0) (ms := 0) (rc := (3 * n)) (rs := (18 * n)) (As := []) (rest := []) (ci := 9) dL_law_1684 lmL_140 okX9_thrown rfl (by decide) rfl (Nat.le_of_ble_eq_true rfl) rfl hb5 (c_X9_thrown h5) ?_
  refine hs_iload dL_law_1687 1 rfl ?_
  refine hs_icmp_eq (tgt := 1694) dL_law_1689 (by decide) (fun hc6 => ?_) (fun hc6 => ?_)
  · rw [if_pos hc6] at h
    refine hs_iload dL_law_1694 1 rfl ?_
    refine hs_if_ne (tgt := 1711) dL_law_1696 (by decide) (fun hc7 => ?_) (fun hc7 => ?_)
    · rw [if_neg hc7] at h
      refine hs_sub (lv' := [(0, .retAddr 0), (1, .ref x1), (2, .ref x2), (3, .ref x3), (4, .int x4)]) [2, 3, 4, 5, 6] rfl ?_
      refine hs_weak (rc' := (3 * n)) (rs' := (18 * n)) (by omega) (by omega) ?_
      exact c_L_law_b1711 hl k23 hk23 h
    · rw [if_pos hc7] at h
      refine hs_aload_n dL_law_1699 5 rfl ?_
      refine hs_iconst (v := (0 : Int32)) dL_law_1700 (by decide) ?_
      obtain ⟨r8, h8, h⟩ := hb_bind h
      refine hs_lald dL_law_1701 h8 ?_
      refine hs_iload dL_law_1702 0 rfl ?_
      refine hs_i2l dL_law_1704 ?_
      refine hs_lcmp dL_law_1705 ?_
      refine hs_if_eq (tgt := 1711) dL_law_1706 (by decide) (fun hc9 => ?_) (fun hc9 => ?_)
      · rw [if_pos hc9] at h
        refine hs_sub (lv' := [(0, .retAddr 0), (1, .ref x1), (2, .ref x2), (3, .ref x3), (4, .int x4)]) [2, 3, 4, 5, 6] rfl ?_
        refine hs_weak (rc' := (3 * n)) (rs' := (18 * n)) (by omega) (by omega) ?_
        exact c_L_law_b1711 hl k23 hk23 h
      · rw [if_neg hc9] at h
        refine hs_iconst (v := (0 : Int32)) dL_law_1709 (by decide) ?_
        obtain rfl := Option.some.inj h
        exact hs_ireturn dL_law_1710 rfl (by decide) (fun h => by cases h)
  · rw [if_neg hc6] at h
    refine hs_iconst (v := (0 : Int32)) dL_law_1692 (by decide) ?_
    obtain rfl := Option.some.inj h
    exact hs_ireturn dL_law_1693 rfl (by decide) (fun h => by cases h)
set_option maxHeartbeats 4000000 in
set_option maxRecDepth 20000 in
theorem c_L_law_b1655 {G : hb_G} {l : Launch} (hl : l.stackTraces = false) {n : Nat}  (k23 : Nat → Nat → Nat → Int32 → hb_M → Option (Int32 × hb_M)) (hk23 : ∀ (x1 : Nat) (x2 : Nat) (x3 : Nat) (x4 : Int32) (σ : hb_M) (r : (Int32 × hb_M)), k23 x1 x2 x3 x4 σ = some r → hb_T G l true mL_law 83 (3 * n) (18 * n) 23 [(0, .retAddr 0), (1, .ref x1), (2, .ref x2), (3, .ref x3), (4, .int x4)] [] σ (.inl (some (.int r.1)), r.2))  {x1 : Nat} {x2 : Nat} {x3 : Nat} {x4 : Int32} {σ : hb_M} {r : (Int32 × hb_M)} (h : f_L_law_b1655 G.2.2.2.2.1 G.2.2.2.2.2 k23 x1 x2 x3 x4 σ = some r) : hb_T G l true mL_law 83 (3 * n) (18 * n) 1655 [(0, .retAddr 0), (1, .ref x1), (2, .ref x2), (3, .ref x3), (4, .int x4)] [] σ (.inl (some (.int r.1)), r.2) := by
  unfold f_L_law_b1655 at h
  refine hs_goto (tgt := 2704) dL_law_1655 (by decide) ?_
  refine hs_sub (lv' := [(0, .retAddr 0), (1, .ref x1), (2, .ref x2), (3, .ref x3), (4, .int x4)]) [0, 1, 2, 3, 4] rfl ?_
  refine hs_weak (rc' := (3 * n)) (rs' := (18 * n)) (by omega) (by omega) ?_
  exact c_L_law_b2704 hl k23 hk23 h
set_option maxHeartbeats 4000000 in
set_option maxRecDepth 20000 in
theorem c_L_law_b1602 {G : hb_G} {l : Launch} (hl : l.stackTraces = false) {n : Nat}  (k23 : Nat → Nat → Nat → Int32 → hb_M → Option (Int32 × hb_M)) (hk23 : ∀ (x1 : Nat) (x2 : Nat) (x3 : Nat) (x4 : Int32) (σ : hb_M) (r : (Int32 × hb_M)), k23 x1 x2 x3 x4 σ = some r → hb_T G l true mL_law 83 (3 * n) (18 * n) 23 [(0, .retAddr 0), (1, .ref x1), (2, .ref x2), (3, .ref x3), (4, .int x4)] [] σ (.inl (some (.int r.1)), r.2))  {x1 : Nat} {x2 : Nat} {x3 : Nat} {x4 : Int32} {σ : hb_M} {r : (Int32 × hb_M)} (h : f_L_law_b1602 G.2.2.2.2.1 G.2.2.2.2.2 k23 x1 x2 x3 x4 σ = some r) : hb_T G l true mL_law 83 (3 * n + 3) (18 * n + 18) 1602 [(0, .retAddr 0), (1, .ref x1), (2, .ref x2), (3, .ref x3), (4, .int x4)] [] σ (.inl (some (.int r.1)), r.2) := by
  unfold f_L_law_b1602 at h
  refine hs_aload_n dL_law_1602 1 rfl ?_
  refine hs_sload_n dL_law_1603 0 rfl ?_
  refine hs_iload dL_law_1604 4 rfl ?_
  refine hs_iconst (v := (1 : Int32)) dL_law_1606 (by decide) ?_
  refine hs_iadd dL_law_1607 ?_
  obtain ⟨r1, h1, h⟩ := hb_bind h
  refine hs_iald dL_law_1608 h1 ?_
  refine hs_aload_n dL_law_1609 3 rfl ?_
  refine hs_weak (rc' := 1 + 3 * n) (rs' := 6 + 18 * n) (by omega) (by omega) ?_
  obtain ⟨r2, h2, h⟩ := hb_bind h
  refine hs_callSXi (μ' := mL_retainedSize) (mc := 1) (ms := 6) (rc := (3 * n)) (rs := (18 * n)) (As := [.ref x1, .int r1, .ref x3]) (rest := []) dL_law_1610 lmL_220 okL_retainedSize rfl (by decide) rfl (Nat.le_of_ble_eq_true rfl) (c_L_retainedSize hl h2) ?_
  refine hs_istore (lv' := [(5, .int r2.1), (0, .retAddr 0), (1, .ref x1), (2, .ref x2), (3, .ref x3), (4, .int x4)]) dL_law_1613 (by decide) rfl ?_
  refine hs_aload_n dL_law_1615 3 rfl ?_
  refine hs_sload_n dL_law_1616 1 rfl ?_
  refine hs_iload dL_law_1617 5 rfl ?_
  refine hs_iconst (v := (1 : Int32)) dL_law_1619 (by decide) ?_
  refine hs_iadd dL_law_1620 ?_
  obtain ⟨r3, h3, h⟩ := hb_bind h
  refine hs_iald dL_law_1621 h3 ?_
  refine hs_weak (rc' := 0 + 3 * n) (rs' := 0 + 18 * n) (by omega) (by omega) ?_
  obtain ⟨r4, h4, h⟩ := hb_bind h
  obtain ⟨h4, nf4, hb4⟩ := hb_on_at h4
  refine hs_callVi (μ' := mX9_retainedSize) (mc := 0) (ms := 0) (rc := (3 * n)) (rs := (18 * n)) (As := [.int r3]) (rest := []) (ci := 9) dL_law_1622 lmL_222 okX9_retainedSize rfl (by decide) rfl (Nat.le_of_ble_eq_true rfl) rfl hb4 (c_X9_retainedSize h4) ?_
  refine hs_istore (lv' := [(6, .int r4.1), (5, .int r2.1), (0, .retAddr 0), (1, .ref x1), (2, .ref x2), (3, .ref x3), (4, .int x4)]) dL_law_1625 (by decide) rfl ?_
  refine hs_aload_n dL_law_1627 4 rfl ?_
  refine hs_weak (rc' := 0 + 3 * n) (rs' := 0 + 18 * n) (by omega) (by omega) ?_
  obtain ⟨r5, h5, h⟩ := hb_bind h
  obtain ⟨h5, nf5, hb5⟩ := hb_on_at h5
  refine hs_callVi (μ' := mX9_thrown) (mc := 0) (ms := 0) (rc := (3 * n)) (rs := (18 * n)) (As := []) (rest := []) (ci := 9) dL_law_1628 lmL_140 okX9_thrown rfl (by decide) rfl (Nat.le_of_ble_eq_true rfl) rfl hb5 (c_X9_thrown h5) ?_
  refine hs_iload dL_law_1631 1 rfl ?_
  refine hs_icmp_eq (tgt := 1638) dL_law_1633 (by decide) (fun hc6 => ?_) (fun hc6 => ?_)
  · rw [if_pos hc6] at h
    refine hs_iload dL_law_1638 1 rfl ?_
    refine hs_if_ne (tgt := 1655) dL_law_1640 (by decide) (fun hc7 => ?_) (fun hc7 => ?_)
    · rw [if_neg hc7] at h
      refine hs_sub (lv' := [(0, .retAddr 0), (1, .ref x1), (2, .ref x2), (3, .ref x3), (4, .int x4)]) [2, 3, 4, 5, 6] rfl ?_
      refine hs_weak (rc' := (3 * n)) (rs' := (18 * n)) (by omega) (by omega) ?_
      exact c_L_law_b1655 hl k23 hk23 h
    · rw [if_pos hc7] at h
      refine hs_aload_n dL_law_1643 5 rfl ?_
      refine hs_iconst (v := (0 : Int32)) dL_law_1644 (by decide) ?_
      obtain ⟨r8, h8, h⟩ := hb_bind h
      refine hs_lald dL_law_1645 h8 ?_
      refine hs_iload dL_law_1646 0 rfl ?_
      refine hs_i2l dL_law_1648 ?_
      refine hs_lcmp dL_law_1649 ?_
      refine hs_if_eq (tgt := 1655) dL_law_1650 (by decide) (fun hc9 => ?_) (fun hc9 => ?_)
      · rw [if_pos hc9] at h
        refine hs_sub (lv' := [(0, .retAddr 0), (1, .ref x1), (2, .ref x2), (3, .ref x3), (4, .int x4)]) [2, 3, 4, 5, 6] rfl ?_
        refine hs_weak (rc' := (3 * n)) (rs' := (18 * n)) (by omega) (by omega) ?_
        exact c_L_law_b1655 hl k23 hk23 h
      · rw [if_neg hc9] at h
        refine hs_iconst (v := (0 : Int32)) dL_law_1653 (by decide) ?_
        obtain rfl := Option.some.inj h
        exact hs_ireturn dL_law_1654 rfl (by decide) (fun h => by cases h)
  · rw [if_neg hc6] at h
    refine hs_iconst (v := (0 : Int32)) dL_law_1636 (by decide) ?_
    obtain rfl := Option.some.inj h
    exact hs_ireturn dL_law_1637 rfl (by decide) (fun h => by cases h)
set_option maxHeartbeats 4000000 in
set_option maxRecDepth 20000 in
theorem c_L_law_b1599 {G : hb_G} {l : Launch} (hl : l.stackTraces = false) {n : Nat}  (k23 : Nat → Nat → Nat → Int32 → hb_M → Option (Int32 × hb_M)) (hk23 : ∀ (x1 : Nat) (x2 : Nat) (x3 : Nat) (x4 : Int32) (σ : hb_M) (r : (Int32 × hb_M)), k23 x1 x2 x3 x4 σ = some r → hb_T G l true mL_law 83 (3 * n) (18 * n) 23 [(0, .retAddr 0), (1, .ref x1), (2, .ref x2), (3, .ref x3), (4, .int x4)] [] σ (.inl (some (.int r.1)), r.2))  {x1 : Nat} {x2 : Nat} {x3 : Nat} {x4 : Int32} {σ : hb_M} {r : (Int32 × hb_M)} (h : f_L_law_b1599 G.2.2.2.2.1 G.2.2.2.2.2 k23 x1 x2 x3 x4 σ = some r) : hb_T G l true mL_law 83 (3 * n) (18 * n) 1599 [(0, .retAddr 0), (1, .ref x1), (2, .ref x2), (3, .ref x3), (4, .int x4)] [] σ (.inl (some (.int r.1)), r.2) := by
  unfold f_L_law_b1599 at h
  refine hs_goto (tgt := 2704) dL_law_1599 (by decide) ?_
  refine hs_sub (lv' := [(0, .retAddr 0), (1, .ref x1), (2, .ref x2), (3, .ref x3), (4, .int x4)]) [0, 1, 2, 3, 4] rfl ?_
  refine hs_weak (rc' := (3 * n)) (rs' := (18 * n)) (by omega) (by omega) ?_
  exact c_L_law_b2704 hl k23 hk23 h
set_option maxHeartbeats 4000000 in
set_option maxRecDepth 20000 in
theorem c_L_law_b1534 {G : hb_G} {l : Launch} (hl : l.stackTraces = false) {n : Nat}  (k23 : Nat → Nat → Nat → Int32 → hb_M → Option (Int32 × hb_M)) (hk23 : ∀ (x1 : Nat) (x2 : Nat) (x3 : Nat) (x4 : Int32) (σ : hb_M) (r : (Int32 × hb_M)), k23 x1 x2 x3 x4 σ = some r → hb_T G l true mL_law 83 (3 * n) (18 * n) 23 [(0, .retAddr 0), (1, .ref x1), (2, .ref x2), (3, .ref x3), (4, .int x4)] [] σ (.inl (some (.int r.1)), r.2))  {x1 : Nat} {x2 : Nat} {x3 : Nat} {x4 : Int32} {σ : hb_M} {r : (Int32 × hb_M)} (h : f_L_law_b1534 G.2.2.2.2.1 G.2.2.2.2.2 k23 x1 x2 x3 x4 σ = some r) : hb_T G l true mL_law 83 (3 * n + 3) (18 * n + 18) 1534 [(0, .retAddr 0), (1, .ref x1), (2, .ref x2), (3, .ref x3), (4, .int x4)] [] σ (.inl (some (.int r.1)), r.2) := by
  unfold f_L_law_b1534 at h
  refine hs_aload_n dL_law_1534 1 rfl ?_
  refine hs_sload_n dL_law_1535 0 rfl ?_
  refine hs_iload dL_law_1536 4 rfl ?_
  refine hs_iconst (v := (1 : Int32)) dL_law_1538 (by decide) ?_
  refine hs_iadd dL_law_1539 ?_
  obtain ⟨r1, h1, h⟩ := hb_bind h
  refine hs_iald dL_law_1540 h1 ?_
  refine hs_sload_n dL_law_1541 0 rfl ?_
  refine hs_iload dL_law_1542 4 rfl ?_
  refine hs_iconst (v := (2 : Int32)) dL_law_1544 (by decide) ?_
  refine hs_iadd dL_law_1545 ?_
  obtain ⟨r2, h2, h⟩ := hb_bind h
  refine hs_iald dL_law_1546 h2 ?_
  refine hs_aload_n dL_law_1547 3 rfl ?_
  refine hs_weak (rc' := 1 + 3 * n) (rs' := 6 + 18 * n) (by omega) (by omega) ?_
  obtain ⟨r3, h3, h⟩ := hb_bind h
  refine hs_callSXi (μ' := mL_dominatedAt) (mc := 1) (ms := 6) (rc := (3 * n)) (rs := (18 * n)) (As := [.ref x1, .int r1, .int r2, .ref x3]) (rest := []) dL_law_1548 lmL_217 okL_dominatedAt rfl (by decide) rfl (Nat.le_of_ble_eq_true rfl) (c_L_dominatedAt hl h3) ?_
  refine hs_istore (lv' := [(5, .int r3.1), (0, .retAddr 0), (1, .ref x1), (2, .ref x2), (3, .ref x3), (4, .int x4)]) dL_law_1551 (by decide) rfl ?_
  refine hs_aload_n dL_law_1553 3 rfl ?_
  refine hs_sload_n dL_law_1554 1 rfl ?_
  refine hs_iload dL_law_1555 5 rfl ?_
  refine hs_iconst (v := (1 : Int32)) dL_law_1557 (by decide) ?_
  refine hs_iadd dL_law_1558 ?_
  obtain ⟨r4, h4, h⟩ := hb_bind h
  refine hs_iald dL_law_1559 h4 ?_
  refine hs_sload_n dL_law_1560 1 rfl ?_
  refine hs_iload dL_law_1561 5 rfl ?_
  refine hs_iconst (v := (2 : Int32)) dL_law_1563 (by decide) ?_
  refine hs_iadd dL_law_1564 ?_
  obtain ⟨r5, h5, h⟩ := hb_bind h
  refine hs_iald dL_law_1565 h5 ?_
  refine hs_weak (rc' := 0 + 3 * n) (rs' := 0 + 18 * n) (by omega) (by omega) ?_
  obtain ⟨r6, h6, h⟩ := hb_bind h
  obtain ⟨h6, nf6, hb6⟩ := hb_on_at h6
  refine hs_callVi (μ' := mX9_dominatedAt) (mc := 0) (ms := 0) (rc := (3 * n)) (rs := (18 * n)) (As := [.int r4, .int r5]) (rest := []) (ci := 9) dL_law_1566 lmL_219 okX9_dominatedAt rfl (by decide) rfl (Nat.le_of_ble_eq_true rfl) rfl hb6 (c_X9_dominatedAt h6) ?_
  refine hs_istore (lv' := [(6, .int r6.1), (5, .int r3.1), (0, .retAddr 0), (1, .ref x1), (2, .ref x2), (3, .ref x3), (4, .int x4)]) dL_law_1569 (by decide) rfl ?_
  refine hs_aload_n dL_law_1571 4 rfl ?_
  refine hs_weak (rc' := 0 + 3 * n) (rs' := 0 + 18 * n) (by omega) (by omega) ?_
  obtain ⟨r7, h7, h⟩ := hb_bind h
  obtain ⟨h7, nf7, hb7⟩ := hb_on_at h7
  refine hs_callVi (μ' := mX9_thrown) (mc := 0) (ms := 0) (rc := (3 * n)) (rs := (18 * n)) (As := []) (rest := []) (ci := 9) dL_law_1572 lmL_140 okX9_thrown rfl (by decide) rfl (Nat.le_of_ble_eq_true rfl) rfl hb7 (c_X9_thrown h7) ?_
  refine hs_iload dL_law_1575 1 rfl ?_
  refine hs_icmp_eq (tgt := 1582) dL_law_1577 (by decide) (fun hc8 => ?_) (fun hc8 => ?_)
  · rw [if_pos hc8] at h
    refine hs_iload dL_law_1582 1 rfl ?_
    refine hs_if_ne (tgt := 1599) dL_law_1584 (by decide) (fun hc9 => ?_) (fun hc9 => ?_)
    · rw [if_neg hc9] at h
      refine hs_sub (lv' := [(0, .retAddr 0), (1, .ref x1), (2, .ref x2), (3, .ref x3), (4, .int x4)]) [2, 3, 4, 5, 6] rfl ?_
      refine hs_weak (rc' := (3 * n)) (rs' := (18 * n)) (by omega) (by omega) ?_
      exact c_L_law_b1599 hl k23 hk23 h
    · rw [if_pos hc9] at h
      refine hs_aload_n dL_law_1587 5 rfl ?_
      refine hs_iconst (v := (0 : Int32)) dL_law_1588 (by decide) ?_
      obtain ⟨r10, h10, h⟩ := hb_bind h
      refine hs_lald dL_law_1589 h10 ?_
      refine hs_iload dL_law_1590 0 rfl ?_
      refine hs_i2l dL_law_1592 ?_
      refine hs_lcmp dL_law_1593 ?_
      refine hs_if_eq (tgt := 1599) dL_law_1594 (by decide) (fun hc11 => ?_) (fun hc11 => ?_)
      · rw [if_pos hc11] at h
        refine hs_sub (lv' := [(0, .retAddr 0), (1, .ref x1), (2, .ref x2), (3, .ref x3), (4, .int x4)]) [2, 3, 4, 5, 6] rfl ?_
        refine hs_weak (rc' := (3 * n)) (rs' := (18 * n)) (by omega) (by omega) ?_
        exact c_L_law_b1599 hl k23 hk23 h
      · rw [if_neg hc11] at h
        refine hs_iconst (v := (0 : Int32)) dL_law_1597 (by decide) ?_
        obtain rfl := Option.some.inj h
        exact hs_ireturn dL_law_1598 rfl (by decide) (fun h => by cases h)
  · rw [if_neg hc8] at h
    refine hs_iconst (v := (0 : Int32)) dL_law_1580 (by decide) ?_
    obtain rfl := Option.some.inj h
    exact hs_ireturn dL_law_1581 rfl (by decide) (fun h => by cases h)
set_option maxHeartbeats 4000000 in
set_option maxRecDepth 20000 in
theorem c_L_law_b1531 {G : hb_G} {l : Launch} (hl : l.stackTraces = false) {n : Nat}  (k23 : Nat → Nat → Nat → Int32 → hb_M → Option (Int32 × hb_M)) (hk23 : ∀ (x1 : Nat) (x2 : Nat) (x3 : Nat) (x4 : Int32) (σ : hb_M) (r : (Int32 × hb_M)), k23 x1 x2 x3 x4 σ = some r → hb_T G l true mL_law 83 (3 * n) (18 * n) 23 [(0, .retAddr 0), (1, .ref x1), (2, .ref x2), (3, .ref x3), (4, .int x4)] [] σ (.inl (some (.int r.1)), r.2))  {x1 : Nat} {x2 : Nat} {x3 : Nat} {x4 : Int32} {σ : hb_M} {r : (Int32 × hb_M)} (h : f_L_law_b1531 G.2.2.2.2.1 G.2.2.2.2.2 k23 x1 x2 x3 x4 σ = some r) : hb_T G l true mL_law 83 (3 * n) (18 * n) 1531 [(0, .retAddr 0), (1, .ref x1), (2, .ref x2), (3, .ref x3), (4, .int x4)] [] σ (.inl (some (.int r.1)), r.2) := by
  unfold f_L_law_b1531 at h
  refine hs_goto (tgt := 2704) dL_law_1531 (by decide) ?_
  refine hs_sub (lv' := [(0, .retAddr 0), (1, .ref x1), (2, .ref x2), (3, .ref x3), (4, .int x4)]) [0, 1, 2, 3, 4] rfl ?_
  refine hs_weak (rc' := (3 * n)) (rs' := (18 * n)) (by omega) (by omega) ?_
  exact c_L_law_b2704 hl k23 hk23 h
set_option maxHeartbeats 4000000 in
set_option maxRecDepth 20000 in
theorem c_L_law_b1478 {G : hb_G} {l : Launch} (hl : l.stackTraces = false) {n : Nat}  (k23 : Nat → Nat → Nat → Int32 → hb_M → Option (Int32 × hb_M)) (hk23 : ∀ (x1 : Nat) (x2 : Nat) (x3 : Nat) (x4 : Int32) (σ : hb_M) (r : (Int32 × hb_M)), k23 x1 x2 x3 x4 σ = some r → hb_T G l true mL_law 83 (3 * n) (18 * n) 23 [(0, .retAddr 0), (1, .ref x1), (2, .ref x2), (3, .ref x3), (4, .int x4)] [] σ (.inl (some (.int r.1)), r.2))  {x1 : Nat} {x2 : Nat} {x3 : Nat} {x4 : Int32} {σ : hb_M} {r : (Int32 × hb_M)} (h : f_L_law_b1478 G.2.2.2.2.1 G.2.2.2.2.2 k23 x1 x2 x3 x4 σ = some r) : hb_T G l true mL_law 83 (3 * n + 3) (18 * n + 18) 1478 [(0, .retAddr 0), (1, .ref x1), (2, .ref x2), (3, .ref x3), (4, .int x4)] [] σ (.inl (some (.int r.1)), r.2) := by
  unfold f_L_law_b1478 at h
  refine hs_aload_n dL_law_1478 1 rfl ?_
  refine hs_sload_n dL_law_1479 0 rfl ?_
  refine hs_iload dL_law_1480 4 rfl ?_
  refine hs_iconst (v := (1 : Int32)) dL_law_1482 (by decide) ?_
  refine hs_iadd dL_law_1483 ?_
  obtain ⟨r1, h1, h⟩ := hb_bind h
  refine hs_iald dL_law_1484 h1 ?_
  refine hs_aload_n dL_law_1485 3 rfl ?_
  refine hs_weak (rc' := 1 + 3 * n) (rs' := 6 + 18 * n) (by omega) (by omega) ?_
  obtain ⟨r2, h2, h⟩ := hb_bind h
  refine hs_callSXi (μ' := mL_depth) (mc := 1) (ms := 6) (rc := (3 * n)) (rs := (18 * n)) (As := [.ref x1, .int r1, .ref x3]) (rest := []) dL_law_1486 lmL_214 okL_depth rfl (by decide) rfl (Nat.le_of_ble_eq_true rfl) (c_L_depth hl h2) ?_
  refine hs_istore (lv' := [(5, .int r2.1), (0, .retAddr 0), (1, .ref x1), (2, .ref x2), (3, .ref x3), (4, .int x4)]) dL_law_1489 (by decide) rfl ?_
  refine hs_aload_n dL_law_1491 3 rfl ?_
  refine hs_sload_n dL_law_1492 1 rfl ?_
  refine hs_iload dL_law_1493 5 rfl ?_
  refine hs_iconst (v := (1 : Int32)) dL_law_1495 (by decide) ?_
  refine hs_iadd dL_law_1496 ?_
  obtain ⟨r3, h3, h⟩ := hb_bind h
  refine hs_iald dL_law_1497 h3 ?_
  refine hs_weak (rc' := 0 + 3 * n) (rs' := 0 + 18 * n) (by omega) (by omega) ?_
  obtain ⟨r4, h4, h⟩ := hb_bind h
  obtain ⟨h4, nf4, hb4⟩ := hb_on_at h4
  refine hs_callVi (μ' := mX9_depth) (mc := 0) (ms := 0) (rc := (3 * n)) (rs := (18 * n)) (As := [.int r3]) (rest := []) (ci := 9) dL_law_1498 lmL_216 okX9_depth rfl (by decide) rfl (Nat.le_of_ble_eq_true rfl) rfl hb4 (c_X9_depth h4) ?_
  refine hs_istore (lv' := [(6, .int r4.1), (5, .int r2.1), (0, .retAddr 0), (1, .ref x1), (2, .ref x2), (3, .ref x3), (4, .int x4)]) dL_law_1501 (by decide) rfl ?_
  refine hs_aload_n dL_law_1503 4 rfl ?_
  refine hs_weak (rc' := 0 + 3 * n) (rs' := 0 + 18 * n) (by omega) (by omega) ?_
  obtain ⟨r5, h5, h⟩ := hb_bind h
  obtain ⟨h5, nf5, hb5⟩ := hb_on_at h5
  refine hs_callVi (μ' := mX9_thrown) (mc := 0) (ms := 0) (rc := (3 * n)) (rs := (18 * n)) (As := []) (rest := []) (ci := 9) dL_law_1504 lmL_140 okX9_thrown rfl (by decide) rfl (Nat.le_of_ble_eq_true rfl) rfl hb5 (c_X9_thrown h5) ?_
  refine hs_iload dL_law_1507 1 rfl ?_
  refine hs_icmp_eq (tgt := 1514) dL_law_1509 (by decide) (fun hc6 => ?_) (fun hc6 => ?_)
  · rw [if_pos hc6] at h
    refine hs_iload dL_law_1514 1 rfl ?_
    refine hs_if_ne (tgt := 1531) dL_law_1516 (by decide) (fun hc7 => ?_) (fun hc7 => ?_)
    · rw [if_neg hc7] at h
      refine hs_sub (lv' := [(0, .retAddr 0), (1, .ref x1), (2, .ref x2), (3, .ref x3), (4, .int x4)]) [2, 3, 4, 5, 6] rfl ?_
      refine hs_weak (rc' := (3 * n)) (rs' := (18 * n)) (by omega) (by omega) ?_
      exact c_L_law_b1531 hl k23 hk23 h
    · rw [if_pos hc7] at h
      refine hs_aload_n dL_law_1519 5 rfl ?_
      refine hs_iconst (v := (0 : Int32)) dL_law_1520 (by decide) ?_
      obtain ⟨r8, h8, h⟩ := hb_bind h
      refine hs_lald dL_law_1521 h8 ?_
      refine hs_iload dL_law_1522 0 rfl ?_
      refine hs_i2l dL_law_1524 ?_
      refine hs_lcmp dL_law_1525 ?_
      refine hs_if_eq (tgt := 1531) dL_law_1526 (by decide) (fun hc9 => ?_) (fun hc9 => ?_)
      · rw [if_pos hc9] at h
        refine hs_sub (lv' := [(0, .retAddr 0), (1, .ref x1), (2, .ref x2), (3, .ref x3), (4, .int x4)]) [2, 3, 4, 5, 6] rfl ?_
        refine hs_weak (rc' := (3 * n)) (rs' := (18 * n)) (by omega) (by omega) ?_
        exact c_L_law_b1531 hl k23 hk23 h
      · rw [if_neg hc9] at h
        refine hs_iconst (v := (0 : Int32)) dL_law_1529 (by decide) ?_
        obtain rfl := Option.some.inj h
        exact hs_ireturn dL_law_1530 rfl (by decide) (fun h => by cases h)
  · rw [if_neg hc6] at h
    refine hs_iconst (v := (0 : Int32)) dL_law_1512 (by decide) ?_
    obtain rfl := Option.some.inj h
    exact hs_ireturn dL_law_1513 rfl (by decide) (fun h => by cases h)
set_option maxHeartbeats 4000000 in
set_option maxRecDepth 20000 in
theorem c_L_law_b1475 {G : hb_G} {l : Launch} (hl : l.stackTraces = false) {n : Nat}  (k23 : Nat → Nat → Nat → Int32 → hb_M → Option (Int32 × hb_M)) (hk23 : ∀ (x1 : Nat) (x2 : Nat) (x3 : Nat) (x4 : Int32) (σ : hb_M) (r : (Int32 × hb_M)), k23 x1 x2 x3 x4 σ = some r → hb_T G l true mL_law 83 (3 * n) (18 * n) 23 [(0, .retAddr 0), (1, .ref x1), (2, .ref x2), (3, .ref x3), (4, .int x4)] [] σ (.inl (some (.int r.1)), r.2))  {x1 : Nat} {x2 : Nat} {x3 : Nat} {x4 : Int32} {σ : hb_M} {r : (Int32 × hb_M)} (h : f_L_law_b1475 G.2.2.2.2.1 G.2.2.2.2.2 k23 x1 x2 x3 x4 σ = some r) : hb_T G l true mL_law 83 (3 * n) (18 * n) 1475 [(0, .retAddr 0), (1, .ref x1), (2, .ref x2), (3, .ref x3), (4, .int x4)] [] σ (.inl (some (.int r.1)), r.2) := by
  unfold f_L_law_b1475 at h
  refine hs_goto (tgt := 2704) dL_law_1475 (by decide) ?_
  refine hs_sub (lv' := [(0, .retAddr 0), (1, .ref x1), (2, .ref x2), (3, .ref x3), (4, .int x4)]) [0, 1, 2, 3, 4] rfl ?_
  refine hs_weak (rc' := (3 * n)) (rs' := (18 * n)) (by omega) (by omega) ?_
  exact c_L_law_b2704 hl k23 hk23 h
set_option maxHeartbeats 4000000 in
set_option maxRecDepth 20000 in
theorem c_L_law_b1422 {G : hb_G} {l : Launch} (hl : l.stackTraces = false) {n : Nat}  (k23 : Nat → Nat → Nat → Int32 → hb_M → Option (Int32 × hb_M)) (hk23 : ∀ (x1 : Nat) (x2 : Nat) (x3 : Nat) (x4 : Int32) (σ : hb_M) (r : (Int32 × hb_M)), k23 x1 x2 x3 x4 σ = some r → hb_T G l true mL_law 83 (3 * n) (18 * n) 23 [(0, .retAddr 0), (1, .ref x1), (2, .ref x2), (3, .ref x3), (4, .int x4)] [] σ (.inl (some (.int r.1)), r.2))  {x1 : Nat} {x2 : Nat} {x3 : Nat} {x4 : Int32} {σ : hb_M} {r : (Int32 × hb_M)} (h : f_L_law_b1422 G.2.2.2.2.1 G.2.2.2.2.2 k23 x1 x2 x3 x4 σ = some r) : hb_T G l true mL_law 83 (3 * n + 3) (18 * n + 18) 1422 [(0, .retAddr 0), (1, .ref x1), (2, .ref x2), (3, .ref x3), (4, .int x4)] [] σ (.inl (some (.int r.1)), r.2) := by
  unfold f_L_law_b1422 at h
  refine hs_aload_n dL_law_1422 1 rfl ?_
  refine hs_sload_n dL_law_1423 0 rfl ?_
  refine hs_iload dL_law_1424 4 rfl ?_
  refine hs_iconst (v := (1 : Int32)) dL_law_1426 (by decide) ?_
  refine hs_iadd dL_law_1427 ?_
  obtain ⟨r1, h1, h⟩ := hb_bind h
  refine hs_iald dL_law_1428 h1 ?_
  refine hs_aload_n dL_law_1429 3 rfl ?_
  refine hs_weak (rc' := 1 + 3 * n) (rs' := 6 + 18 * n) (by omega) (by omega) ?_
  obtain ⟨r2, h2, h⟩ := hb_bind h
  refine hs_callSXi (μ' := mL_dominator) (mc := 1) (ms := 6) (rc := (3 * n)) (rs := (18 * n)) (As := [.ref x1, .int r1, .ref x3]) (rest := []) dL_law_1430 lmL_211 okL_dominator rfl (by decide) rfl (Nat.le_of_ble_eq_true rfl) (c_L_dominator hl h2) ?_
  refine hs_istore (lv' := [(5, .int r2.1), (0, .retAddr 0), (1, .ref x1), (2, .ref x2), (3, .ref x3), (4, .int x4)]) dL_law_1433 (by decide) rfl ?_
  refine hs_aload_n dL_law_1435 3 rfl ?_
  refine hs_sload_n dL_law_1436 1 rfl ?_
  refine hs_iload dL_law_1437 5 rfl ?_
  refine hs_iconst (v := (1 : Int32)) dL_law_1439 (by decide) ?_
  refine hs_iadd dL_law_1440 ?_
  obtain ⟨r3, h3, h⟩ := hb_bind h
  refine hs_iald dL_law_1441 h3 ?_
  refine hs_weak (rc' := 0 + 3 * n) (rs' := 0 + 18 * n) (by omega) (by omega) ?_
  obtain ⟨r4, h4, h⟩ := hb_bind h
  obtain ⟨h4, nf4, hb4⟩ := hb_on_at h4
  refine hs_callVi (μ' := mX9_dominator) (mc := 0) (ms := 0) (rc := (3 * n)) (rs := (18 * n)) (As := [.int r3]) (rest := []) (ci := 9) dL_law_1442 lmL_213 okX9_dominator rfl (by decide) rfl (Nat.le_of_ble_eq_true rfl) rfl hb4 (c_X9_dominator h4) ?_
  refine hs_istore (lv' := [(6, .int r4.1), (5, .int r2.1), (0, .retAddr 0), (1, .ref x1), (2, .ref x2), (3, .ref x3), (4, .int x4)]) dL_law_1445 (by decide) rfl ?_
  refine hs_aload_n dL_law_1447 4 rfl ?_
  refine hs_weak (rc' := 0 + 3 * n) (rs' := 0 + 18 * n) (by omega) (by omega) ?_
  obtain ⟨r5, h5, h⟩ := hb_bind h
  obtain ⟨h5, nf5, hb5⟩ := hb_on_at h5
  refine hs_callVi (μ' := mX9_thrown) (mc := 0) (ms := 0) (rc := (3 * n)) (rs := (18 * n)) (As := []) (rest := []) (ci := 9) dL_law_1448 lmL_140 okX9_thrown rfl (by decide) rfl (Nat.le_of_ble_eq_true rfl) rfl hb5 (c_X9_thrown h5) ?_
  refine hs_iload dL_law_1451 1 rfl ?_
  refine hs_icmp_eq (tgt := 1458) dL_law_1453 (by decide) (fun hc6 => ?_) (fun hc6 => ?_)
  · rw [if_pos hc6] at h
    refine hs_iload dL_law_1458 1 rfl ?_
    refine hs_if_ne (tgt := 1475) dL_law_1460 (by decide) (fun hc7 => ?_) (fun hc7 => ?_)
    · rw [if_neg hc7] at h
      refine hs_sub (lv' := [(0, .retAddr 0), (1, .ref x1), (2, .ref x2), (3, .ref x3), (4, .int x4)]) [2, 3, 4, 5, 6] rfl ?_
      refine hs_weak (rc' := (3 * n)) (rs' := (18 * n)) (by omega) (by omega) ?_
      exact c_L_law_b1475 hl k23 hk23 h
    · rw [if_pos hc7] at h
      refine hs_aload_n dL_law_1463 5 rfl ?_
      refine hs_iconst (v := (0 : Int32)) dL_law_1464 (by decide) ?_
      obtain ⟨r8, h8, h⟩ := hb_bind h
      refine hs_lald dL_law_1465 h8 ?_
      refine hs_iload dL_law_1466 0 rfl ?_
      refine hs_i2l dL_law_1468 ?_
      refine hs_lcmp dL_law_1469 ?_
      refine hs_if_eq (tgt := 1475) dL_law_1470 (by decide) (fun hc9 => ?_) (fun hc9 => ?_)
      · rw [if_pos hc9] at h
        refine hs_sub (lv' := [(0, .retAddr 0), (1, .ref x1), (2, .ref x2), (3, .ref x3), (4, .int x4)]) [2, 3, 4, 5, 6] rfl ?_
        refine hs_weak (rc' := (3 * n)) (rs' := (18 * n)) (by omega) (by omega) ?_
        exact c_L_law_b1475 hl k23 hk23 h
      · rw [if_neg hc9] at h
        refine hs_iconst (v := (0 : Int32)) dL_law_1473 (by decide) ?_
        obtain rfl := Option.some.inj h
        exact hs_ireturn dL_law_1474 rfl (by decide) (fun h => by cases h)
  · rw [if_neg hc6] at h
    refine hs_iconst (v := (0 : Int32)) dL_law_1456 (by decide) ?_
    obtain rfl := Option.some.inj h
    exact hs_ireturn dL_law_1457 rfl (by decide) (fun h => by cases h)
set_option maxHeartbeats 4000000 in
set_option maxRecDepth 20000 in
theorem c_L_law_b1419 {G : hb_G} {l : Launch} (hl : l.stackTraces = false) {n : Nat}  (k23 : Nat → Nat → Nat → Int32 → hb_M → Option (Int32 × hb_M)) (hk23 : ∀ (x1 : Nat) (x2 : Nat) (x3 : Nat) (x4 : Int32) (σ : hb_M) (r : (Int32 × hb_M)), k23 x1 x2 x3 x4 σ = some r → hb_T G l true mL_law 83 (3 * n) (18 * n) 23 [(0, .retAddr 0), (1, .ref x1), (2, .ref x2), (3, .ref x3), (4, .int x4)] [] σ (.inl (some (.int r.1)), r.2))  {x1 : Nat} {x2 : Nat} {x3 : Nat} {x4 : Int32} {σ : hb_M} {r : (Int32 × hb_M)} (h : f_L_law_b1419 G.2.2.2.2.1 G.2.2.2.2.2 k23 x1 x2 x3 x4 σ = some r) : hb_T G l true mL_law 83 (3 * n) (18 * n) 1419 [(0, .retAddr 0), (1, .ref x1), (2, .ref x2), (3, .ref x3), (4, .int x4)] [] σ (.inl (some (.int r.1)), r.2) := by
  unfold f_L_law_b1419 at h
  refine hs_goto (tgt := 2704) dL_law_1419 (by decide) ?_
  refine hs_sub (lv' := [(0, .retAddr 0), (1, .ref x1), (2, .ref x2), (3, .ref x3), (4, .int x4)]) [0, 1, 2, 3, 4] rfl ?_
  refine hs_weak (rc' := (3 * n)) (rs' := (18 * n)) (by omega) (by omega) ?_
  exact c_L_law_b2704 hl k23 hk23 h
set_option maxHeartbeats 4000000 in
set_option maxRecDepth 20000 in
theorem c_L_law_b1413 {G : hb_G} {l : Launch} (hl : l.stackTraces = false) {n : Nat}  (k23 : Nat → Nat → Nat → Int32 → hb_M → Option (Int32 × hb_M)) (hk23 : ∀ (x1 : Nat) (x2 : Nat) (x3 : Nat) (x4 : Int32) (σ : hb_M) (r : (Int32 × hb_M)), k23 x1 x2 x3 x4 σ = some r → hb_T G l true mL_law 83 (3 * n) (18 * n) 23 [(0, .retAddr 0), (1, .ref x1), (2, .ref x2), (3, .ref x3), (4, .int x4)] [] σ (.inl (some (.int r.1)), r.2))  {x1 : Nat} {x2 : Nat} {x3 : Nat} {x4 : Int32} {s0 : Int64} {s1 : Int64} {σ : hb_M} {r : (Int32 × hb_M)} (h : f_L_law_b1413 G.2.2.2.2.1 G.2.2.2.2.2 k23 x1 x2 x3 x4 s0 s1 σ = some r) : hb_T G l true mL_law 83 (3 * n) (18 * n) 1413 [(0, .retAddr 0), (1, .ref x1), (2, .ref x2), (3, .ref x3), (4, .int x4)] [.long s1, .long s0] σ (.inl (some (.int r.1)), r.2) := by
  unfold f_L_law_b1413 at h
  refine hs_lcmp dL_law_1413 ?_
  refine hs_if_eq (tgt := 1419) dL_law_1414 (by decide) (fun hc1 => ?_) (fun hc1 => ?_)
  · rw [if_pos hc1] at h
    refine hs_sub (lv' := [(0, .retAddr 0), (1, .ref x1), (2, .ref x2), (3, .ref x3), (4, .int x4)]) [0, 1, 2, 3, 4] rfl ?_
    refine hs_weak (rc' := (3 * n)) (rs' := (18 * n)) (by omega) (by omega) ?_
    exact c_L_law_b1419 hl k23 hk23 h
  · rw [if_neg hc1] at h
    refine hs_iconst (v := (0 : Int32)) dL_law_1417 (by decide) ?_
    obtain rfl := Option.some.inj h
    exact hs_ireturn dL_law_1418 rfl (by decide) (fun h => by cases h)
set_option maxHeartbeats 4000000 in
set_option maxRecDepth 20000 in
theorem c_L_law_b1347 {G : hb_G} {l : Launch} (hl : l.stackTraces = false) {n : Nat}  (k23 : Nat → Nat → Nat → Int32 → hb_M → Option (Int32 × hb_M)) (hk23 : ∀ (x1 : Nat) (x2 : Nat) (x3 : Nat) (x4 : Int32) (σ : hb_M) (r : (Int32 × hb_M)), k23 x1 x2 x3 x4 σ = some r → hb_T G l true mL_law 83 (3 * n) (18 * n) 23 [(0, .retAddr 0), (1, .ref x1), (2, .ref x2), (3, .ref x3), (4, .int x4)] [] σ (.inl (some (.int r.1)), r.2))  {x1 : Nat} {x2 : Nat} {x3 : Nat} {x4 : Int32} {σ : hb_M} {r : (Int32 × hb_M)} (h : f_L_law_b1347 G.2.2.2.2.1 G.2.2.2.2.2 k23 x1 x2 x3 x4 σ = some r) : hb_T G l true mL_law 83 (3 * n + 3) (18 * n + 18) 1347 [(0, .retAddr 0), (1, .ref x1), (2, .ref x2), (3, .ref x3), (4, .int x4)] [] σ (.inl (some (.int r.1)), r.2) := by
  unfold f_L_law_b1347 at h
  refine hs_aload_n dL_law_1347 1 rfl ?_
  refine hs_sload_n dL_law_1348 0 rfl ?_
  refine hs_iload dL_law_1349 4 rfl ?_
  refine hs_iconst (v := (1 : Int32)) dL_law_1351 (by decide) ?_
  refine hs_iadd dL_law_1352 ?_
  obtain ⟨r1, h1, h⟩ := hb_bind h
  refine hs_iald dL_law_1353 h1 ?_
  refine hs_sload_n dL_law_1354 0 rfl ?_
  refine hs_iload dL_law_1355 4 rfl ?_
  refine hs_iconst (v := (2 : Int32)) dL_law_1357 (by decide) ?_
  refine hs_iadd dL_law_1358 ?_
  obtain ⟨r2, h2, h⟩ := hb_bind h
  refine hs_iald dL_law_1359 h2 ?_
  refine hs_aload_n dL_law_1360 3 rfl ?_
  refine hs_weak (rc' := 1 + 3 * n) (rs' := 6 + 18 * n) (by omega) (by omega) ?_
  obtain ⟨r3, h3, h⟩ := hb_bind h
  refine hs_callSXi (μ' := mL_dominates) (mc := 1) (ms := 6) (rc := (3 * n)) (rs := (18 * n)) (As := [.ref x1, .int r1, .int r2, .ref x3]) (rest := []) dL_law_1361 lmL_208 okL_dominates rfl (by decide) rfl (Nat.le_of_ble_eq_true rfl) (c_L_dominates hl h3) ?_
  refine hs_istore (lv' := [(5, .int r3.1), (0, .retAddr 0), (1, .ref x1), (2, .ref x2), (3, .ref x3), (4, .int x4)]) dL_law_1364 (by decide) rfl ?_
  refine hs_aload_n dL_law_1366 3 rfl ?_
  refine hs_sload_n dL_law_1367 1 rfl ?_
  refine hs_iload dL_law_1368 5 rfl ?_
  refine hs_iconst (v := (1 : Int32)) dL_law_1370 (by decide) ?_
  refine hs_iadd dL_law_1371 ?_
  obtain ⟨r4, h4, h⟩ := hb_bind h
  refine hs_iald dL_law_1372 h4 ?_
  refine hs_sload_n dL_law_1373 1 rfl ?_
  refine hs_iload dL_law_1374 5 rfl ?_
  refine hs_iconst (v := (2 : Int32)) dL_law_1376 (by decide) ?_
  refine hs_iadd dL_law_1377 ?_
  obtain ⟨r5, h5, h⟩ := hb_bind h
  refine hs_iald dL_law_1378 h5 ?_
  refine hs_weak (rc' := 0 + 3 * n) (rs' := 0 + 18 * n) (by omega) (by omega) ?_
  obtain ⟨r6, h6, h⟩ := hb_bind h
  obtain ⟨h6, nf6, hb6⟩ := hb_on_at h6
  refine hs_callVi (μ' := mX9_dominates) (mc := 0) (ms := 0) (rc := (3 * n)) (rs := (18 * n)) (As := [.int r4, .int r5]) (rest := []) (ci := 9) dL_law_1379 lmL_210 okX9_dominates rfl (by decide) rfl (Nat.le_of_ble_eq_true rfl) rfl hb6 (c_X9_dominates h6) ?_
  refine hs_istore (lv' := [(6, .int r6.1), (5, .int r3.1), (0, .retAddr 0), (1, .ref x1), (2, .ref x2), (3, .ref x3), (4, .int x4)]) dL_law_1382 (by decide) rfl ?_
  refine hs_aload_n dL_law_1384 4 rfl ?_
  refine hs_weak (rc' := 0 + 3 * n) (rs' := 0 + 18 * n) (by omega) (by omega) ?_
  obtain ⟨r7, h7, h⟩ := hb_bind h
  obtain ⟨h7, nf7, hb7⟩ := hb_on_at h7
  refine hs_callVi (μ' := mX9_thrown) (mc := 0) (ms := 0) (rc := (3 * n)) (rs := (18 * n)) (As := []) (rest := []) (ci := 9) dL_law_1385 lmL_140 okX9_thrown rfl (by decide) rfl (Nat.le_of_ble_eq_true rfl) rfl hb7 (c_X9_thrown h7) ?_
  refine hs_iload dL_law_1388 1 rfl ?_
  refine hs_icmp_eq (tgt := 1395) dL_law_1390 (by decide) (fun hc8 => ?_) (fun hc8 => ?_)
  · rw [if_pos hc8] at h
    refine hs_iload dL_law_1395 1 rfl ?_
    refine hs_if_ne (tgt := 1419) dL_law_1397 (by decide) (fun hc9 => ?_) (fun hc9 => ?_)
    · rw [if_neg hc9] at h
      refine hs_sub (lv' := [(0, .retAddr 0), (1, .ref x1), (2, .ref x2), (3, .ref x3), (4, .int x4)]) [2, 3, 4, 5, 6] rfl ?_
      refine hs_weak (rc' := (3 * n)) (rs' := (18 * n)) (by omega) (by omega) ?_
      exact c_L_law_b1419 hl k23 hk23 h
    · rw [if_pos hc9] at h
      refine hs_aload_n dL_law_1400 5 rfl ?_
      refine hs_iconst (v := (0 : Int32)) dL_law_1401 (by decide) ?_
      obtain ⟨r10, h10, h⟩ := hb_bind h
      refine hs_lald dL_law_1402 h10 ?_
      refine hs_iload dL_law_1403 0 rfl ?_
      refine hs_if_eq (tgt := 1412) dL_law_1405 (by decide) (fun hc11 => ?_) (fun hc11 => ?_)
      · rw [if_pos hc11] at h
        refine hs_lconst (v := (0 : Int64)) dL_law_1412 (by decide) ?_
        refine hs_sub (lv' := [(0, .retAddr 0), (1, .ref x1), (2, .ref x2), (3, .ref x3), (4, .int x4)]) [2, 3, 4, 5, 6] rfl ?_
        refine hs_weak (rc' := (3 * n)) (rs' := (18 * n)) (by omega) (by omega) ?_
        exact c_L_law_b1413 hl k23 hk23 h
      · rw [if_neg hc11] at h
        refine hs_lconst (v := (1 : Int64)) dL_law_1408 (by decide) ?_
        refine hs_goto (tgt := 1413) dL_law_1409 (by decide) ?_
        refine hs_sub (lv' := [(0, .retAddr 0), (1, .ref x1), (2, .ref x2), (3, .ref x3), (4, .int x4)]) [2, 3, 4, 5, 6] rfl ?_
        refine hs_weak (rc' := (3 * n)) (rs' := (18 * n)) (by omega) (by omega) ?_
        exact c_L_law_b1413 hl k23 hk23 h
  · rw [if_neg hc8] at h
    refine hs_iconst (v := (0 : Int32)) dL_law_1393 (by decide) ?_
    obtain rfl := Option.some.inj h
    exact hs_ireturn dL_law_1394 rfl (by decide) (fun h => by cases h)
set_option maxHeartbeats 4000000 in
set_option maxRecDepth 20000 in
theorem c_L_law_b1344 {G : hb_G} {l : Launch} (hl : l.stackTraces = false) {n : Nat}  (k23 : Nat → Nat → Nat → Int32 → hb_M → Option (Int32 × hb_M)) (hk23 : ∀ (x1 : Nat) (x2 : Nat) (x3 : Nat) (x4 : Int32) (σ : hb_M) (r : (Int32 × hb_M)), k23 x1 x2 x3 x4 σ = some r → hb_T G l true mL_law 83 (3 * n) (18 * n) 23 [(0, .retAddr 0), (1, .ref x1), (2, .ref x2), (3, .ref x3), (4, .int x4)] [] σ (.inl (some (.int r.1)), r.2))  {x1 : Nat} {x2 : Nat} {x3 : Nat} {x4 : Int32} {σ : hb_M} {r : (Int32 × hb_M)} (h : f_L_law_b1344 G.2.2.2.2.1 G.2.2.2.2.2 k23 x1 x2 x3 x4 σ = some r) : hb_T G l true mL_law 83 (3 * n) (18 * n) 1344 [(0, .retAddr 0), (1, .ref x1), (2, .ref x2), (3, .ref x3), (4, .int x4)] [] σ (.inl (some (.int r.1)), r.2) := by
  unfold f_L_law_b1344 at h
  refine hs_goto (tgt := 2704) dL_law_1344 (by decide) ?_
  refine hs_sub (lv' := [(0, .retAddr 0), (1, .ref x1), (2, .ref x2), (3, .ref x3), (4, .int x4)]) [0, 1, 2, 3, 4] rfl ?_
  refine hs_weak (rc' := (3 * n)) (rs' := (18 * n)) (by omega) (by omega) ?_
  exact c_L_law_b2704 hl k23 hk23 h
set_option maxHeartbeats 4000000 in
set_option maxRecDepth 20000 in
theorem c_L_law_b1279 {G : hb_G} {l : Launch} (hl : l.stackTraces = false) {n : Nat}  (k23 : Nat → Nat → Nat → Int32 → hb_M → Option (Int32 × hb_M)) (hk23 : ∀ (x1 : Nat) (x2 : Nat) (x3 : Nat) (x4 : Int32) (σ : hb_M) (r : (Int32 × hb_M)), k23 x1 x2 x3 x4 σ = some r → hb_T G l true mL_law 83 (3 * n) (18 * n) 23 [(0, .retAddr 0), (1, .ref x1), (2, .ref x2), (3, .ref x3), (4, .int x4)] [] σ (.inl (some (.int r.1)), r.2))  {x1 : Nat} {x2 : Nat} {x3 : Nat} {x4 : Int32} {σ : hb_M} {r : (Int32 × hb_M)} (h : f_L_law_b1279 G.2.2.2.2.1 G.2.2.2.2.2 k23 x1 x2 x3 x4 σ = some r) : hb_T G l true mL_law 83 (3 * n + 3) (18 * n + 18) 1279 [(0, .retAddr 0), (1, .ref x1), (2, .ref x2), (3, .ref x3), (4, .int x4)] [] σ (.inl (some (.int r.1)), r.2) := by
  unfold f_L_law_b1279 at h
  refine hs_aload_n dL_law_1279 1 rfl ?_
  refine hs_sload_n dL_law_1280 0 rfl ?_
  refine hs_iload dL_law_1281 4 rfl ?_
  refine hs_iconst (v := (1 : Int32)) dL_law_1283 (by decide) ?_
  refine hs_iadd dL_law_1284 ?_
  obtain ⟨r1, h1, h⟩ := hb_bind h
  refine hs_iald dL_law_1285 h1 ?_
  refine hs_sload_n dL_law_1286 0 rfl ?_
  refine hs_iload dL_law_1287 4 rfl ?_
  refine hs_iconst (v := (2 : Int32)) dL_law_1289 (by decide) ?_
  refine hs_iadd dL_law_1290 ?_
  obtain ⟨r2, h2, h⟩ := hb_bind h
  refine hs_iald dL_law_1291 h2 ?_
  refine hs_aload_n dL_law_1292 3 rfl ?_
  refine hs_weak (rc' := 1 + 3 * n) (rs' := 6 + 18 * n) (by omega) (by omega) ?_
  obtain ⟨r3, h3, h⟩ := hb_bind h
  refine hs_callSXi (μ' := mL_pathAt) (mc := 1) (ms := 6) (rc := (3 * n)) (rs := (18 * n)) (As := [.ref x1, .int r1, .int r2, .ref x3]) (rest := []) dL_law_1293 lmL_205 okL_pathAt rfl (by decide) rfl (Nat.le_of_ble_eq_true rfl) (c_L_pathAt hl h3) ?_
  refine hs_istore (lv' := [(5, .int r3.1), (0, .retAddr 0), (1, .ref x1), (2, .ref x2), (3, .ref x3), (4, .int x4)]) dL_law_1296 (by decide) rfl ?_
  refine hs_aload_n dL_law_1298 3 rfl ?_
  refine hs_sload_n dL_law_1299 1 rfl ?_
  refine hs_iload dL_law_1300 5 rfl ?_
  refine hs_iconst (v := (1 : Int32)) dL_law_1302 (by decide) ?_
  refine hs_iadd dL_law_1303 ?_
  obtain ⟨r4, h4, h⟩ := hb_bind h
  refine hs_iald dL_law_1304 h4 ?_
  refine hs_sload_n dL_law_1305 1 rfl ?_
  refine hs_iload dL_law_1306 5 rfl ?_
  refine hs_iconst (v := (2 : Int32)) dL_law_1308 (by decide) ?_
  refine hs_iadd dL_law_1309 ?_
  obtain ⟨r5, h5, h⟩ := hb_bind h
  refine hs_iald dL_law_1310 h5 ?_
  refine hs_weak (rc' := 0 + 3 * n) (rs' := 0 + 18 * n) (by omega) (by omega) ?_
  obtain ⟨r6, h6, h⟩ := hb_bind h
  obtain ⟨h6, nf6, hb6⟩ := hb_on_at h6
  refine hs_callVi (μ' := mX9_pathAt) (mc := 0) (ms := 0) (rc := (3 * n)) (rs := (18 * n)) (As := [.int r4, .int r5]) (rest := []) (ci := 9) dL_law_1311 lmL_207 okX9_pathAt rfl (by decide) rfl (Nat.le_of_ble_eq_true rfl) rfl hb6 (c_X9_pathAt h6) ?_
  refine hs_istore (lv' := [(6, .int r6.1), (5, .int r3.1), (0, .retAddr 0), (1, .ref x1), (2, .ref x2), (3, .ref x3), (4, .int x4)]) dL_law_1314 (by decide) rfl ?_
  refine hs_aload_n dL_law_1316 4 rfl ?_
  refine hs_weak (rc' := 0 + 3 * n) (rs' := 0 + 18 * n) (by omega) (by omega) ?_
  obtain ⟨r7, h7, h⟩ := hb_bind h
  obtain ⟨h7, nf7, hb7⟩ := hb_on_at h7
  refine hs_callVi (μ' := mX9_thrown) (mc := 0) (ms := 0) (rc := (3 * n)) (rs := (18 * n)) (As := []) (rest := []) (ci := 9) dL_law_1317 lmL_140 okX9_thrown rfl (by decide) rfl (Nat.le_of_ble_eq_true rfl) rfl hb7 (c_X9_thrown h7) ?_
  refine hs_iload dL_law_1320 1 rfl ?_
  refine hs_icmp_eq (tgt := 1327) dL_law_1322 (by decide) (fun hc8 => ?_) (fun hc8 => ?_)
  · rw [if_pos hc8] at h
    refine hs_iload dL_law_1327 1 rfl ?_
    refine hs_if_ne (tgt := 1344) dL_law_1329 (by decide) (fun hc9 => ?_) (fun hc9 => ?_)
    · rw [if_neg hc9] at h
      refine hs_sub (lv' := [(0, .retAddr 0), (1, .ref x1), (2, .ref x2), (3, .ref x3), (4, .int x4)]) [2, 3, 4, 5, 6] rfl ?_
      refine hs_weak (rc' := (3 * n)) (rs' := (18 * n)) (by omega) (by omega) ?_
      exact c_L_law_b1344 hl k23 hk23 h
    · rw [if_pos hc9] at h
      refine hs_aload_n dL_law_1332 5 rfl ?_
      refine hs_iconst (v := (0 : Int32)) dL_law_1333 (by decide) ?_
      obtain ⟨r10, h10, h⟩ := hb_bind h
      refine hs_lald dL_law_1334 h10 ?_
      refine hs_iload dL_law_1335 0 rfl ?_
      refine hs_i2l dL_law_1337 ?_
      refine hs_lcmp dL_law_1338 ?_
      refine hs_if_eq (tgt := 1344) dL_law_1339 (by decide) (fun hc11 => ?_) (fun hc11 => ?_)
      · rw [if_pos hc11] at h
        refine hs_sub (lv' := [(0, .retAddr 0), (1, .ref x1), (2, .ref x2), (3, .ref x3), (4, .int x4)]) [2, 3, 4, 5, 6] rfl ?_
        refine hs_weak (rc' := (3 * n)) (rs' := (18 * n)) (by omega) (by omega) ?_
        exact c_L_law_b1344 hl k23 hk23 h
      · rw [if_neg hc11] at h
        refine hs_iconst (v := (0 : Int32)) dL_law_1342 (by decide) ?_
        obtain rfl := Option.some.inj h
        exact hs_ireturn dL_law_1343 rfl (by decide) (fun h => by cases h)
  · rw [if_neg hc8] at h
    refine hs_iconst (v := (0 : Int32)) dL_law_1325 (by decide) ?_
    obtain rfl := Option.some.inj h
    exact hs_ireturn dL_law_1326 rfl (by decide) (fun h => by cases h)
set_option maxHeartbeats 4000000 in
set_option maxRecDepth 20000 in
theorem c_L_law_b1276 {G : hb_G} {l : Launch} (hl : l.stackTraces = false) {n : Nat}  (k23 : Nat → Nat → Nat → Int32 → hb_M → Option (Int32 × hb_M)) (hk23 : ∀ (x1 : Nat) (x2 : Nat) (x3 : Nat) (x4 : Int32) (σ : hb_M) (r : (Int32 × hb_M)), k23 x1 x2 x3 x4 σ = some r → hb_T G l true mL_law 83 (3 * n) (18 * n) 23 [(0, .retAddr 0), (1, .ref x1), (2, .ref x2), (3, .ref x3), (4, .int x4)] [] σ (.inl (some (.int r.1)), r.2))  {x1 : Nat} {x2 : Nat} {x3 : Nat} {x4 : Int32} {σ : hb_M} {r : (Int32 × hb_M)} (h : f_L_law_b1276 G.2.2.2.2.1 G.2.2.2.2.2 k23 x1 x2 x3 x4 σ = some r) : hb_T G l true mL_law 83 (3 * n) (18 * n) 1276 [(0, .retAddr 0), (1, .ref x1), (2, .ref x2), (3, .ref x3), (4, .int x4)] [] σ (.inl (some (.int r.1)), r.2) := by
  unfold f_L_law_b1276 at h
  refine hs_goto (tgt := 2704) dL_law_1276 (by decide) ?_
  refine hs_sub (lv' := [(0, .retAddr 0), (1, .ref x1), (2, .ref x2), (3, .ref x3), (4, .int x4)]) [0, 1, 2, 3, 4] rfl ?_
  refine hs_weak (rc' := (3 * n)) (rs' := (18 * n)) (by omega) (by omega) ?_
  exact c_L_law_b2704 hl k23 hk23 h
set_option maxHeartbeats 4000000 in
set_option maxRecDepth 20000 in
theorem c_L_law_b1223 {G : hb_G} {l : Launch} (hl : l.stackTraces = false) {n : Nat}  (k23 : Nat → Nat → Nat → Int32 → hb_M → Option (Int32 × hb_M)) (hk23 : ∀ (x1 : Nat) (x2 : Nat) (x3 : Nat) (x4 : Int32) (σ : hb_M) (r : (Int32 × hb_M)), k23 x1 x2 x3 x4 σ = some r → hb_T G l true mL_law 83 (3 * n) (18 * n) 23 [(0, .retAddr 0), (1, .ref x1), (2, .ref x2), (3, .ref x3), (4, .int x4)] [] σ (.inl (some (.int r.1)), r.2))  {x1 : Nat} {x2 : Nat} {x3 : Nat} {x4 : Int32} {σ : hb_M} {r : (Int32 × hb_M)} (h : f_L_law_b1223 G.2.2.2.2.1 G.2.2.2.2.2 k23 x1 x2 x3 x4 σ = some r) : hb_T G l true mL_law 83 (3 * n + 3) (18 * n + 18) 1223 [(0, .retAddr 0), (1, .ref x1), (2, .ref x2), (3, .ref x3), (4, .int x4)] [] σ (.inl (some (.int r.1)), r.2) := by
  unfold f_L_law_b1223 at h
  refine hs_aload_n dL_law_1223 1 rfl ?_
  refine hs_sload_n dL_law_1224 0 rfl ?_
  refine hs_iload dL_law_1225 4 rfl ?_
  refine hs_iconst (v := (1 : Int32)) dL_law_1227 (by decide) ?_
  refine hs_iadd dL_law_1228 ?_
  obtain ⟨r1, h1, h⟩ := hb_bind h
  refine hs_iald dL_law_1229 h1 ?_
  refine hs_aload_n dL_law_1230 3 rfl ?_
  refine hs_weak (rc' := 1 + 3 * n) (rs' := 6 + 18 * n) (by omega) (by omega) ?_
  obtain ⟨r2, h2, h⟩ := hb_bind h
  refine hs_callSXi (μ' := mL_distance) (mc := 1) (ms := 6) (rc := (3 * n)) (rs := (18 * n)) (As := [.ref x1, .int r1, .ref x3]) (rest := []) dL_law_1231 lmL_202 okL_distance rfl (by decide) rfl (Nat.le_of_ble_eq_true rfl) (c_L_distance hl h2) ?_
  refine hs_istore (lv' := [(5, .int r2.1), (0, .retAddr 0), (1, .ref x1), (2, .ref x2), (3, .ref x3), (4, .int x4)]) dL_law_1234 (by decide) rfl ?_
  refine hs_aload_n dL_law_1236 3 rfl ?_
  refine hs_sload_n dL_law_1237 1 rfl ?_
  refine hs_iload dL_law_1238 5 rfl ?_
  refine hs_iconst (v := (1 : Int32)) dL_law_1240 (by decide) ?_
  refine hs_iadd dL_law_1241 ?_
  obtain ⟨r3, h3, h⟩ := hb_bind h
  refine hs_iald dL_law_1242 h3 ?_
  refine hs_weak (rc' := 0 + 3 * n) (rs' := 0 + 18 * n) (by omega) (by omega) ?_
  obtain ⟨r4, h4, h⟩ := hb_bind h
  obtain ⟨h4, nf4, hb4⟩ := hb_on_at h4
  refine hs_callVi (μ' := mX9_distance) (mc := 0) (ms := 0) (rc := (3 * n)) (rs := (18 * n)) (As := [.int r3]) (rest := []) (ci := 9) dL_law_1243 lmL_204 okX9_distance rfl (by decide) rfl (Nat.le_of_ble_eq_true rfl) rfl hb4 (c_X9_distance h4) ?_
  refine hs_istore (lv' := [(6, .int r4.1), (5, .int r2.1), (0, .retAddr 0), (1, .ref x1), (2, .ref x2), (3, .ref x3), (4, .int x4)]) dL_law_1246 (by decide) rfl ?_
  refine hs_aload_n dL_law_1248 4 rfl ?_
  refine hs_weak (rc' := 0 + 3 * n) (rs' := 0 + 18 * n) (by omega) (by omega) ?_
  obtain ⟨r5, h5, h⟩ := hb_bind h
  obtain ⟨h5, nf5, hb5⟩ := hb_on_at h5
  refine hs_callVi (μ' := mX9_thrown) (mc := 0) (ms := 0) (rc := (3 * n)) (rs := (18 * n)) (As := []) (rest := []) (ci := 9) dL_law_1249 lmL_140 okX9_thrown rfl (by decide) rfl (Nat.le_of_ble_eq_true rfl) rfl hb5 (c_X9_thrown h5) ?_
  refine hs_iload dL_law_1252 1 rfl ?_
  refine hs_icmp_eq (tgt := 1259) dL_law_1254 (by decide) (fun hc6 => ?_) (fun hc6 => ?_)
  · rw [if_pos hc6] at h
    refine hs_iload dL_law_1259 1 rfl ?_
    refine hs_if_ne (tgt := 1276) dL_law_1261 (by decide) (fun hc7 => ?_) (fun hc7 => ?_)
    · rw [if_neg hc7] at h
      refine hs_sub (lv' := [(0, .retAddr 0), (1, .ref x1), (2, .ref x2), (3, .ref x3), (4, .int x4)]) [2, 3, 4, 5, 6] rfl ?_
      refine hs_weak (rc' := (3 * n)) (rs' := (18 * n)) (by omega) (by omega) ?_
      exact c_L_law_b1276 hl k23 hk23 h
    · rw [if_pos hc7] at h
      refine hs_aload_n dL_law_1264 5 rfl ?_
      refine hs_iconst (v := (0 : Int32)) dL_law_1265 (by decide) ?_
      obtain ⟨r8, h8, h⟩ := hb_bind h
      refine hs_lald dL_law_1266 h8 ?_
      refine hs_iload dL_law_1267 0 rfl ?_
      refine hs_i2l dL_law_1269 ?_
      refine hs_lcmp dL_law_1270 ?_
      refine hs_if_eq (tgt := 1276) dL_law_1271 (by decide) (fun hc9 => ?_) (fun hc9 => ?_)
      · rw [if_pos hc9] at h
        refine hs_sub (lv' := [(0, .retAddr 0), (1, .ref x1), (2, .ref x2), (3, .ref x3), (4, .int x4)]) [2, 3, 4, 5, 6] rfl ?_
        refine hs_weak (rc' := (3 * n)) (rs' := (18 * n)) (by omega) (by omega) ?_
        exact c_L_law_b1276 hl k23 hk23 h
      · rw [if_neg hc9] at h
        refine hs_iconst (v := (0 : Int32)) dL_law_1274 (by decide) ?_
        obtain rfl := Option.some.inj h
        exact hs_ireturn dL_law_1275 rfl (by decide) (fun h => by cases h)
  · rw [if_neg hc6] at h
    refine hs_iconst (v := (0 : Int32)) dL_law_1257 (by decide) ?_
    obtain rfl := Option.some.inj h
    exact hs_ireturn dL_law_1258 rfl (by decide) (fun h => by cases h)
set_option maxHeartbeats 4000000 in
set_option maxRecDepth 20000 in
theorem c_L_law_b1220 {G : hb_G} {l : Launch} (hl : l.stackTraces = false) {n : Nat}  (k23 : Nat → Nat → Nat → Int32 → hb_M → Option (Int32 × hb_M)) (hk23 : ∀ (x1 : Nat) (x2 : Nat) (x3 : Nat) (x4 : Int32) (σ : hb_M) (r : (Int32 × hb_M)), k23 x1 x2 x3 x4 σ = some r → hb_T G l true mL_law 83 (3 * n) (18 * n) 23 [(0, .retAddr 0), (1, .ref x1), (2, .ref x2), (3, .ref x3), (4, .int x4)] [] σ (.inl (some (.int r.1)), r.2))  {x1 : Nat} {x2 : Nat} {x3 : Nat} {x4 : Int32} {σ : hb_M} {r : (Int32 × hb_M)} (h : f_L_law_b1220 G.2.2.2.2.1 G.2.2.2.2.2 k23 x1 x2 x3 x4 σ = some r) : hb_T G l true mL_law 83 (3 * n) (18 * n) 1220 [(0, .retAddr 0), (1, .ref x1), (2, .ref x2), (3, .ref x3), (4, .int x4)] [] σ (.inl (some (.int r.1)), r.2) := by
  unfold f_L_law_b1220 at h
  refine hs_goto (tgt := 2704) dL_law_1220 (by decide) ?_
  refine hs_sub (lv' := [(0, .retAddr 0), (1, .ref x1), (2, .ref x2), (3, .ref x3), (4, .int x4)]) [0, 1, 2, 3, 4] rfl ?_
  refine hs_weak (rc' := (3 * n)) (rs' := (18 * n)) (by omega) (by omega) ?_
  exact c_L_law_b2704 hl k23 hk23 h
set_option maxHeartbeats 4000000 in
set_option maxRecDepth 20000 in
theorem c_L_law_b1155 {G : hb_G} {l : Launch} (hl : l.stackTraces = false) {n : Nat}  (k23 : Nat → Nat → Nat → Int32 → hb_M → Option (Int32 × hb_M)) (hk23 : ∀ (x1 : Nat) (x2 : Nat) (x3 : Nat) (x4 : Int32) (σ : hb_M) (r : (Int32 × hb_M)), k23 x1 x2 x3 x4 σ = some r → hb_T G l true mL_law 83 (3 * n) (18 * n) 23 [(0, .retAddr 0), (1, .ref x1), (2, .ref x2), (3, .ref x3), (4, .int x4)] [] σ (.inl (some (.int r.1)), r.2))  {x1 : Nat} {x2 : Nat} {x3 : Nat} {x4 : Int32} {σ : hb_M} {r : (Int32 × hb_M)} (h : f_L_law_b1155 G.2.2.2.2.1 G.2.2.2.2.2 k23 x1 x2 x3 x4 σ = some r) : hb_T G l true mL_law 83 (3 * n + 3) (18 * n + 18) 1155 [(0, .retAddr 0), (1, .ref x1), (2, .ref x2), (3, .ref x3), (4, .int x4)] [] σ (.inl (some (.int r.1)), r.2) := by
  unfold f_L_law_b1155 at h
  refine hs_aload_n dL_law_1155 1 rfl ?_
  refine hs_sload_n dL_law_1156 0 rfl ?_
  refine hs_iload dL_law_1157 4 rfl ?_
  refine hs_iconst (v := (1 : Int32)) dL_law_1159 (by decide) ?_
  refine hs_iadd dL_law_1160 ?_
  obtain ⟨r1, h1, h⟩ := hb_bind h
  refine hs_iald dL_law_1161 h1 ?_
  refine hs_sload_n dL_law_1162 0 rfl ?_
  refine hs_iload dL_law_1163 4 rfl ?_
  refine hs_iconst (v := (2 : Int32)) dL_law_1165 (by decide) ?_
  refine hs_iadd dL_law_1166 ?_
  obtain ⟨r2, h2, h⟩ := hb_bind h
  refine hs_iald dL_law_1167 h2 ?_
  refine hs_aload_n dL_law_1168 3 rfl ?_
  refine hs_weak (rc' := 2 + 3 * n) (rs' := 12 + 18 * n) (by omega) (by omega) ?_
  obtain ⟨r3, h3, h⟩ := hb_bind h
  refine hs_callSXi (μ' := mL_populate) (mc := 2) (ms := 12) (rc := (3 * n)) (rs := (18 * n)) (As := [.ref x1, .int r1, .int r2, .ref x3]) (rest := []) dL_law_1169 lmL_199 okL_populate rfl (by decide) rfl (Nat.le_of_ble_eq_true rfl) (c_L_populate hl h3) ?_
  refine hs_istore (lv' := [(5, .int r3.1), (0, .retAddr 0), (1, .ref x1), (2, .ref x2), (3, .ref x3), (4, .int x4)]) dL_law_1172 (by decide) rfl ?_
  refine hs_aload_n dL_law_1174 3 rfl ?_
  refine hs_sload_n dL_law_1175 1 rfl ?_
  refine hs_iload dL_law_1176 5 rfl ?_
  refine hs_iconst (v := (1 : Int32)) dL_law_1178 (by decide) ?_
  refine hs_iadd dL_law_1179 ?_
  obtain ⟨r4, h4, h⟩ := hb_bind h
  refine hs_iald dL_law_1180 h4 ?_
  refine hs_sload_n dL_law_1181 1 rfl ?_
  refine hs_iload dL_law_1182 5 rfl ?_
  refine hs_iconst (v := (2 : Int32)) dL_law_1184 (by decide) ?_
  refine hs_iadd dL_law_1185 ?_
  obtain ⟨r5, h5, h⟩ := hb_bind h
  refine hs_iald dL_law_1186 h5 ?_
  refine hs_weak (rc' := 0 + 3 * n) (rs' := 0 + 18 * n) (by omega) (by omega) ?_
  obtain ⟨r6, h6, h⟩ := hb_bind h
  obtain ⟨h6, nf6, hb6⟩ := hb_on_at h6
  refine hs_callVi (μ' := mX9_populate) (mc := 0) (ms := 0) (rc := (3 * n)) (rs := (18 * n)) (As := [.int r4, .int r5]) (rest := []) (ci := 9) dL_law_1187 lmL_201 okX9_populate rfl (by decide) rfl (Nat.le_of_ble_eq_true rfl) rfl hb6 (c_X9_populate h6) ?_
  refine hs_istore (lv' := [(6, .int r6.1), (5, .int r3.1), (0, .retAddr 0), (1, .ref x1), (2, .ref x2), (3, .ref x3), (4, .int x4)]) dL_law_1190 (by decide) rfl ?_
  refine hs_aload_n dL_law_1192 4 rfl ?_
  refine hs_weak (rc' := 0 + 3 * n) (rs' := 0 + 18 * n) (by omega) (by omega) ?_
  obtain ⟨r7, h7, h⟩ := hb_bind h
  obtain ⟨h7, nf7, hb7⟩ := hb_on_at h7
  refine hs_callVi (μ' := mX9_thrown) (mc := 0) (ms := 0) (rc := (3 * n)) (rs := (18 * n)) (As := []) (rest := []) (ci := 9) dL_law_1193 lmL_140 okX9_thrown rfl (by decide) rfl (Nat.le_of_ble_eq_true rfl) rfl hb7 (c_X9_thrown h7) ?_
  refine hs_iload dL_law_1196 1 rfl ?_
  refine hs_icmp_eq (tgt := 1203) dL_law_1198 (by decide) (fun hc8 => ?_) (fun hc8 => ?_)
  · rw [if_pos hc8] at h
    refine hs_iload dL_law_1203 1 rfl ?_
    refine hs_if_ne (tgt := 1220) dL_law_1205 (by decide) (fun hc9 => ?_) (fun hc9 => ?_)
    · rw [if_neg hc9] at h
      refine hs_sub (lv' := [(0, .retAddr 0), (1, .ref x1), (2, .ref x2), (3, .ref x3), (4, .int x4)]) [2, 3, 4, 5, 6] rfl ?_
      refine hs_weak (rc' := (3 * n)) (rs' := (18 * n)) (by omega) (by omega) ?_
      exact c_L_law_b1220 hl k23 hk23 h
    · rw [if_pos hc9] at h
      refine hs_aload_n dL_law_1208 5 rfl ?_
      refine hs_iconst (v := (0 : Int32)) dL_law_1209 (by decide) ?_
      obtain ⟨r10, h10, h⟩ := hb_bind h
      refine hs_lald dL_law_1210 h10 ?_
      refine hs_iload dL_law_1211 0 rfl ?_
      refine hs_i2l dL_law_1213 ?_
      refine hs_lcmp dL_law_1214 ?_
      refine hs_if_eq (tgt := 1220) dL_law_1215 (by decide) (fun hc11 => ?_) (fun hc11 => ?_)
      · rw [if_pos hc11] at h
        refine hs_sub (lv' := [(0, .retAddr 0), (1, .ref x1), (2, .ref x2), (3, .ref x3), (4, .int x4)]) [2, 3, 4, 5, 6] rfl ?_
        refine hs_weak (rc' := (3 * n)) (rs' := (18 * n)) (by omega) (by omega) ?_
        exact c_L_law_b1220 hl k23 hk23 h
      · rw [if_neg hc11] at h
        refine hs_iconst (v := (0 : Int32)) dL_law_1218 (by decide) ?_
        obtain rfl := Option.some.inj h
        exact hs_ireturn dL_law_1219 rfl (by decide) (fun h => by cases h)
  · rw [if_neg hc8] at h
    refine hs_iconst (v := (0 : Int32)) dL_law_1201 (by decide) ?_
    obtain rfl := Option.some.inj h
    exact hs_ireturn dL_law_1202 rfl (by decide) (fun h => by cases h)
set_option maxHeartbeats 4000000 in
set_option maxRecDepth 20000 in
theorem c_L_law_b1152 {G : hb_G} {l : Launch} (hl : l.stackTraces = false) {n : Nat}  (k23 : Nat → Nat → Nat → Int32 → hb_M → Option (Int32 × hb_M)) (hk23 : ∀ (x1 : Nat) (x2 : Nat) (x3 : Nat) (x4 : Int32) (σ : hb_M) (r : (Int32 × hb_M)), k23 x1 x2 x3 x4 σ = some r → hb_T G l true mL_law 83 (3 * n) (18 * n) 23 [(0, .retAddr 0), (1, .ref x1), (2, .ref x2), (3, .ref x3), (4, .int x4)] [] σ (.inl (some (.int r.1)), r.2))  {x1 : Nat} {x2 : Nat} {x3 : Nat} {x4 : Int32} {σ : hb_M} {r : (Int32 × hb_M)} (h : f_L_law_b1152 G.2.2.2.2.1 G.2.2.2.2.2 k23 x1 x2 x3 x4 σ = some r) : hb_T G l true mL_law 83 (3 * n) (18 * n) 1152 [(0, .retAddr 0), (1, .ref x1), (2, .ref x2), (3, .ref x3), (4, .int x4)] [] σ (.inl (some (.int r.1)), r.2) := by
  unfold f_L_law_b1152 at h
  refine hs_goto (tgt := 2704) dL_law_1152 (by decide) ?_
  refine hs_sub (lv' := [(0, .retAddr 0), (1, .ref x1), (2, .ref x2), (3, .ref x3), (4, .int x4)]) [0, 1, 2, 3, 4] rfl ?_
  refine hs_weak (rc' := (3 * n)) (rs' := (18 * n)) (by omega) (by omega) ?_
  exact c_L_law_b2704 hl k23 hk23 h
set_option maxHeartbeats 4000000 in
set_option maxRecDepth 20000 in
theorem c_L_law_b1087 {G : hb_G} {l : Launch} (hl : l.stackTraces = false) {n : Nat}  (k23 : Nat → Nat → Nat → Int32 → hb_M → Option (Int32 × hb_M)) (hk23 : ∀ (x1 : Nat) (x2 : Nat) (x3 : Nat) (x4 : Int32) (σ : hb_M) (r : (Int32 × hb_M)), k23 x1 x2 x3 x4 σ = some r → hb_T G l true mL_law 83 (3 * n) (18 * n) 23 [(0, .retAddr 0), (1, .ref x1), (2, .ref x2), (3, .ref x3), (4, .int x4)] [] σ (.inl (some (.int r.1)), r.2))  {x1 : Nat} {x2 : Nat} {x3 : Nat} {x4 : Int32} {σ : hb_M} {r : (Int32 × hb_M)} (h : f_L_law_b1087 G.2.2.2.2.1 G.2.2.2.2.2 k23 x1 x2 x3 x4 σ = some r) : hb_T G l true mL_law 83 (3 * n + 3) (18 * n + 18) 1087 [(0, .retAddr 0), (1, .ref x1), (2, .ref x2), (3, .ref x3), (4, .int x4)] [] σ (.inl (some (.int r.1)), r.2) := by
  unfold f_L_law_b1087 at h
  refine hs_aload_n dL_law_1087 1 rfl ?_
  refine hs_sload_n dL_law_1088 0 rfl ?_
  refine hs_iload dL_law_1089 4 rfl ?_
  refine hs_iconst (v := (1 : Int32)) dL_law_1091 (by decide) ?_
  refine hs_iadd dL_law_1092 ?_
  obtain ⟨r1, h1, h⟩ := hb_bind h
  refine hs_iald dL_law_1093 h1 ?_
  refine hs_sload_n dL_law_1094 0 rfl ?_
  refine hs_iload dL_law_1095 4 rfl ?_
  refine hs_iconst (v := (2 : Int32)) dL_law_1097 (by decide) ?_
  refine hs_iadd dL_law_1098 ?_
  obtain ⟨r2, h2, h⟩ := hb_bind h
  refine hs_iald dL_law_1099 h2 ?_
  refine hs_aload_n dL_law_1100 3 rfl ?_
  refine hs_weak (rc' := 1 + 3 * n) (rs' := 6 + 18 * n) (by omega) (by omega) ?_
  obtain ⟨r3, h3, h⟩ := hb_bind h
  refine hs_callSXi (μ' := mL_objectInfo) (mc := 1) (ms := 6) (rc := (3 * n)) (rs := (18 * n)) (As := [.ref x1, .int r1, .int r2, .ref x3]) (rest := []) dL_law_1101 lmL_196 okL_objectInfo rfl (by decide) rfl (Nat.le_of_ble_eq_true rfl) (c_L_objectInfo hl h3) ?_
  refine hs_istore (lv' := [(5, .int r3.1), (0, .retAddr 0), (1, .ref x1), (2, .ref x2), (3, .ref x3), (4, .int x4)]) dL_law_1104 (by decide) rfl ?_
  refine hs_aload_n dL_law_1106 3 rfl ?_
  refine hs_sload_n dL_law_1107 1 rfl ?_
  refine hs_iload dL_law_1108 5 rfl ?_
  refine hs_iconst (v := (1 : Int32)) dL_law_1110 (by decide) ?_
  refine hs_iadd dL_law_1111 ?_
  obtain ⟨r4, h4, h⟩ := hb_bind h
  refine hs_iald dL_law_1112 h4 ?_
  refine hs_sload_n dL_law_1113 1 rfl ?_
  refine hs_iload dL_law_1114 5 rfl ?_
  refine hs_iconst (v := (2 : Int32)) dL_law_1116 (by decide) ?_
  refine hs_iadd dL_law_1117 ?_
  obtain ⟨r5, h5, h⟩ := hb_bind h
  refine hs_iald dL_law_1118 h5 ?_
  refine hs_weak (rc' := 0 + 3 * n) (rs' := 0 + 18 * n) (by omega) (by omega) ?_
  obtain ⟨r6, h6, h⟩ := hb_bind h
  obtain ⟨h6, nf6, hb6⟩ := hb_on_at h6
  refine hs_callVi (μ' := mX9_objectInfo) (mc := 0) (ms := 0) (rc := (3 * n)) (rs := (18 * n)) (As := [.int r4, .int r5]) (rest := []) (ci := 9) dL_law_1119 lmL_198 okX9_objectInfo rfl (by decide) rfl (Nat.le_of_ble_eq_true rfl) rfl hb6 (c_X9_objectInfo h6) ?_
  refine hs_istore (lv' := [(6, .int r6.1), (5, .int r3.1), (0, .retAddr 0), (1, .ref x1), (2, .ref x2), (3, .ref x3), (4, .int x4)]) dL_law_1122 (by decide) rfl ?_
  refine hs_aload_n dL_law_1124 4 rfl ?_
  refine hs_weak (rc' := 0 + 3 * n) (rs' := 0 + 18 * n) (by omega) (by omega) ?_
  obtain ⟨r7, h7, h⟩ := hb_bind h
  obtain ⟨h7, nf7, hb7⟩ := hb_on_at h7
  refine hs_callVi (μ' := mX9_thrown) (mc := 0) (ms := 0) (rc := (3 * n)) (rs := (18 * n)) (As := []) (rest := []) (ci := 9) dL_law_1125 lmL_140 okX9_thrown rfl (by decide) rfl (Nat.le_of_ble_eq_true rfl) rfl hb7 (c_X9_thrown h7) ?_
  refine hs_iload dL_law_1128 1 rfl ?_
  refine hs_icmp_eq (tgt := 1135) dL_law_1130 (by decide) (fun hc8 => ?_) (fun hc8 => ?_)
  · rw [if_pos hc8] at h
    refine hs_iload dL_law_1135 1 rfl ?_
    refine hs_if_ne (tgt := 1152) dL_law_1137 (by decide) (fun hc9 => ?_) (fun hc9 => ?_)
    · rw [if_neg hc9] at h
      refine hs_sub (lv' := [(0, .retAddr 0), (1, .ref x1), (2, .ref x2), (3, .ref x3), (4, .int x4)]) [2, 3, 4, 5, 6] rfl ?_
      refine hs_weak (rc' := (3 * n)) (rs' := (18 * n)) (by omega) (by omega) ?_
      exact c_L_law_b1152 hl k23 hk23 h
    · rw [if_pos hc9] at h
      refine hs_aload_n dL_law_1140 5 rfl ?_
      refine hs_iconst (v := (0 : Int32)) dL_law_1141 (by decide) ?_
      obtain ⟨r10, h10, h⟩ := hb_bind h
      refine hs_lald dL_law_1142 h10 ?_
      refine hs_iload dL_law_1143 0 rfl ?_
      refine hs_i2l dL_law_1145 ?_
      refine hs_lcmp dL_law_1146 ?_
      refine hs_if_eq (tgt := 1152) dL_law_1147 (by decide) (fun hc11 => ?_) (fun hc11 => ?_)
      · rw [if_pos hc11] at h
        refine hs_sub (lv' := [(0, .retAddr 0), (1, .ref x1), (2, .ref x2), (3, .ref x3), (4, .int x4)]) [2, 3, 4, 5, 6] rfl ?_
        refine hs_weak (rc' := (3 * n)) (rs' := (18 * n)) (by omega) (by omega) ?_
        exact c_L_law_b1152 hl k23 hk23 h
      · rw [if_neg hc11] at h
        refine hs_iconst (v := (0 : Int32)) dL_law_1150 (by decide) ?_
        obtain rfl := Option.some.inj h
        exact hs_ireturn dL_law_1151 rfl (by decide) (fun h => by cases h)
  · rw [if_neg hc8] at h
    refine hs_iconst (v := (0 : Int32)) dL_law_1133 (by decide) ?_
    obtain rfl := Option.some.inj h
    exact hs_ireturn dL_law_1134 rfl (by decide) (fun h => by cases h)
set_option maxHeartbeats 4000000 in
set_option maxRecDepth 20000 in
theorem c_L_law_b1062 {G : hb_G} {l : Launch} (hl : l.stackTraces = false) {n : Nat}  (k23 : Nat → Nat → Nat → Int32 → hb_M → Option (Int32 × hb_M)) (hk23 : ∀ (x1 : Nat) (x2 : Nat) (x3 : Nat) (x4 : Int32) (σ : hb_M) (r : (Int32 × hb_M)), k23 x1 x2 x3 x4 σ = some r → hb_T G l true mL_law 83 (3 * n) (18 * n) 23 [(0, .retAddr 0), (1, .ref x1), (2, .ref x2), (3, .ref x3), (4, .int x4)] [] σ (.inl (some (.int r.1)), r.2))  {x1 : Nat} {x2 : Nat} {x3 : Nat} {x4 : Int32} {σ : hb_M} {r : (Int32 × hb_M)} (h : f_L_law_b1062 G.2.2.2.2.1 G.2.2.2.2.2 k23 x1 x2 x3 x4 σ = some r) : hb_T G l true mL_law 83 (3 * n + 3) (18 * n + 18) 1062 [(0, .retAddr 0), (1, .ref x1), (2, .ref x2), (3, .ref x3), (4, .int x4)] [] σ (.inl (some (.int r.1)), r.2) := by
  unfold f_L_law_b1062 at h
  refine hs_aload_n dL_law_1062 1 rfl ?_
  refine hs_sload_n dL_law_1063 0 rfl ?_
  refine hs_iload dL_law_1064 4 rfl ?_
  refine hs_iconst (v := (1 : Int32)) dL_law_1066 (by decide) ?_
  refine hs_iadd dL_law_1067 ?_
  obtain ⟨r1, h1, h⟩ := hb_bind h
  refine hs_iald dL_law_1068 h1 ?_
  refine hs_weak (rc' := 0 + 3 * n) (rs' := 0 + 18 * n) (by omega) (by omega) ?_
  obtain ⟨r2, h2, h⟩ := hb_bind h
  obtain ⟨h2, nf2, hb2⟩ := hb_on_at h2
  refine hs_callVi (μ' := mX8_exists) (mc := 0) (ms := 0) (rc := (3 * n)) (rs := (18 * n)) (As := [.int r1]) (rest := []) (ci := 8) dL_law_1069 lmL_191 okX8_exists rfl (by decide) rfl (Nat.le_of_ble_eq_true rfl) rfl hb2 (c_X8_exists h2) ?_
  refine hs_aload_n dL_law_1072 2 rfl ?_
  refine hs_sload_n dL_law_1073 0 rfl ?_
  refine hs_iload dL_law_1074 4 rfl ?_
  refine hs_iconst (v := (1 : Int32)) dL_law_1076 (by decide) ?_
  refine hs_iadd dL_law_1077 ?_
  obtain ⟨r3, h3, h⟩ := hb_bind h
  refine hs_iald dL_law_1078 h3 ?_
  refine hs_weak (rc' := 0 + 3 * n) (rs' := 0 + 18 * n) (by omega) (by omega) ?_
  obtain ⟨r4, h4, h⟩ := hb_bind h
  obtain ⟨h4, nf4, hb4⟩ := hb_on_at h4
  refine hs_callVi (μ' := mX9_exists) (mc := 0) (ms := 0) (rc := (3 * n)) (rs := (18 * n)) (As := [.int r3]) (rest := [.int r2.1]) (ci := 9) dL_law_1079 lmL_195 okX9_exists rfl (by decide) rfl (Nat.le_of_ble_eq_true rfl) rfl hb4 (c_X9_exists h4) ?_
  refine hs_icmp_eq (tgt := 2704) dL_law_1082 (by decide) (fun hc5 => ?_) (fun hc5 => ?_)
  · rw [if_pos hc5] at h
    refine hs_sub (lv' := [(0, .retAddr 0), (1, .ref x1), (2, .ref x2), (3, .ref x3), (4, .int x4)]) [0, 1, 2, 3, 4] rfl ?_
    refine hs_weak (rc' := (3 * n)) (rs' := (18 * n)) (by omega) (by omega) ?_
    exact c_L_law_b2704 hl k23 hk23 h
  · rw [if_neg hc5] at h
    refine hs_iconst (v := (0 : Int32)) dL_law_1085 (by decide) ?_
    obtain rfl := Option.some.inj h
    exact hs_ireturn dL_law_1086 rfl (by decide) (fun h => by cases h)
set_option maxHeartbeats 4000000 in
set_option maxRecDepth 20000 in
theorem c_L_law_b1049 {G : hb_G} {l : Launch} (hl : l.stackTraces = false) {n : Nat}  (k23 : Nat → Nat → Nat → Int32 → hb_M → Option (Int32 × hb_M)) (hk23 : ∀ (x1 : Nat) (x2 : Nat) (x3 : Nat) (x4 : Int32) (σ : hb_M) (r : (Int32 × hb_M)), k23 x1 x2 x3 x4 σ = some r → hb_T G l true mL_law 83 (3 * n) (18 * n) 23 [(0, .retAddr 0), (1, .ref x1), (2, .ref x2), (3, .ref x3), (4, .int x4)] [] σ (.inl (some (.int r.1)), r.2))  {x1 : Nat} {x2 : Nat} {x3 : Nat} {x4 : Int32} {σ : hb_M} {r : (Int32 × hb_M)} (h : f_L_law_b1049 G.2.2.2.2.1 G.2.2.2.2.2 k23 x1 x2 x3 x4 σ = some r) : hb_T G l true mL_law 83 (3 * n + 3) (18 * n + 18) 1049 [(0, .retAddr 0), (1, .ref x1), (2, .ref x2), (3, .ref x3), (4, .int x4)] [] σ (.inl (some (.int r.1)), r.2) := by
  unfold f_L_law_b1049 at h
  refine hs_aload_n dL_law_1049 1 rfl ?_
  refine hs_weak (rc' := 0 + 3 * n) (rs' := 0 + 18 * n) (by omega) (by omega) ?_
  obtain ⟨r1, h1, h⟩ := hb_bind h
  obtain ⟨h1, nf1, hb1⟩ := hb_on_at h1
  refine hs_callVi (μ' := mX8_objects) (mc := 0) (ms := 0) (rc := (3 * n)) (rs := (18 * n)) (As := []) (rest := []) (ci := 8) dL_law_1050 lmL_187 okX8_objects rfl (by decide) rfl (Nat.le_of_ble_eq_true rfl) rfl hb1 (c_X8_objects h1) ?_
  refine hs_aload_n dL_law_1053 2 rfl ?_
  refine hs_weak (rc' := 0 + 3 * n) (rs' := 0 + 18 * n) (by omega) (by omega) ?_
  obtain ⟨r2, h2, h⟩ := hb_bind h
  obtain ⟨h2, nf2, hb2⟩ := hb_on_at h2
  refine hs_callVi (μ' := mX9_objects) (mc := 0) (ms := 0) (rc := (3 * n)) (rs := (18 * n)) (As := []) (rest := [.int r1.1]) (ci := 9) dL_law_1054 lmL_190 okX9_objects rfl (by decide) rfl (Nat.le_of_ble_eq_true rfl) rfl hb2 (c_X9_objects h2) ?_
  refine hs_icmp_eq (tgt := 2704) dL_law_1057 (by decide) (fun hc3 => ?_) (fun hc3 => ?_)
  · rw [if_pos hc3] at h
    refine hs_sub (lv' := [(0, .retAddr 0), (1, .ref x1), (2, .ref x2), (3, .ref x3), (4, .int x4)]) [0, 1, 2, 3, 4] rfl ?_
    refine hs_weak (rc' := (3 * n)) (rs' := (18 * n)) (by omega) (by omega) ?_
    exact c_L_law_b2704 hl k23 hk23 h
  · rw [if_neg hc3] at h
    refine hs_iconst (v := (0 : Int32)) dL_law_1060 (by decide) ?_
    obtain rfl := Option.some.inj h
    exact hs_ireturn dL_law_1061 rfl (by decide) (fun h => by cases h)
set_option maxHeartbeats 4000000 in
set_option maxRecDepth 20000 in
theorem c_L_law_b1036 {G : hb_G} {l : Launch} (hl : l.stackTraces = false) {n : Nat}  (k23 : Nat → Nat → Nat → Int32 → hb_M → Option (Int32 × hb_M)) (hk23 : ∀ (x1 : Nat) (x2 : Nat) (x3 : Nat) (x4 : Int32) (σ : hb_M) (r : (Int32 × hb_M)), k23 x1 x2 x3 x4 σ = some r → hb_T G l true mL_law 83 (3 * n) (18 * n) 23 [(0, .retAddr 0), (1, .ref x1), (2, .ref x2), (3, .ref x3), (4, .int x4)] [] σ (.inl (some (.int r.1)), r.2))  {x1 : Nat} {x2 : Nat} {x3 : Nat} {x4 : Int32} {σ : hb_M} {r : (Int32 × hb_M)} (h : f_L_law_b1036 G.2.2.2.2.1 G.2.2.2.2.2 k23 x1 x2 x3 x4 σ = some r) : hb_T G l true mL_law 83 (3 * n + 3) (18 * n + 18) 1036 [(0, .retAddr 0), (1, .ref x1), (2, .ref x2), (3, .ref x3), (4, .int x4)] [] σ (.inl (some (.int r.1)), r.2) := by
  unfold f_L_law_b1036 at h
  refine hs_aload_n dL_law_1036 1 rfl ?_
  refine hs_weak (rc' := 0 + 3 * n) (rs' := 0 + 18 * n) (by omega) (by omega) ?_
  obtain ⟨r1, h1, h⟩ := hb_bind h
  obtain ⟨h1, nf1, hb1⟩ := hb_on_at h1
  refine hs_callVi (μ' := mX8_collect) (mc := 0) (ms := 0) (rc := (3 * n)) (rs := (18 * n)) (As := []) (rest := []) (ci := 8) dL_law_1037 lmL_183 okX8_collect rfl (by decide) rfl (Nat.le_of_ble_eq_true rfl) rfl hb1 (c_X8_collect h1) ?_
  refine hs_aload_n dL_law_1040 2 rfl ?_
  refine hs_weak (rc' := 0 + 3 * n) (rs' := 0 + 18 * n) (by omega) (by omega) ?_
  obtain ⟨r2, h2, h⟩ := hb_bind h
  obtain ⟨h2, nf2, hb2⟩ := hb_on_at h2
  refine hs_callVi (μ' := mX9_collect) (mc := 0) (ms := 0) (rc := (3 * n)) (rs := (18 * n)) (As := []) (rest := [.int r1.1]) (ci := 9) dL_law_1041 lmL_186 okX9_collect rfl (by decide) rfl (Nat.le_of_ble_eq_true rfl) rfl hb2 (c_X9_collect h2) ?_
  refine hs_icmp_eq (tgt := 2704) dL_law_1044 (by decide) (fun hc3 => ?_) (fun hc3 => ?_)
  · rw [if_pos hc3] at h
    refine hs_sub (lv' := [(0, .retAddr 0), (1, .ref x1), (2, .ref x2), (3, .ref x3), (4, .int x4)]) [0, 1, 2, 3, 4] rfl ?_
    refine hs_weak (rc' := (3 * n)) (rs' := (18 * n)) (by omega) (by omega) ?_
    exact c_L_law_b2704 hl k23 hk23 h
  · rw [if_neg hc3] at h
    refine hs_iconst (v := (0 : Int32)) dL_law_1047 (by decide) ?_
    obtain rfl := Option.some.inj h
    exact hs_ireturn dL_law_1048 rfl (by decide) (fun h => by cases h)
set_option maxHeartbeats 4000000 in
set_option maxRecDepth 20000 in
theorem c_L_law_b1033 {G : hb_G} {l : Launch} (hl : l.stackTraces = false) {n : Nat}  (k23 : Nat → Nat → Nat → Int32 → hb_M → Option (Int32 × hb_M)) (hk23 : ∀ (x1 : Nat) (x2 : Nat) (x3 : Nat) (x4 : Int32) (σ : hb_M) (r : (Int32 × hb_M)), k23 x1 x2 x3 x4 σ = some r → hb_T G l true mL_law 83 (3 * n) (18 * n) 23 [(0, .retAddr 0), (1, .ref x1), (2, .ref x2), (3, .ref x3), (4, .int x4)] [] σ (.inl (some (.int r.1)), r.2))  {x1 : Nat} {x2 : Nat} {x3 : Nat} {x4 : Int32} {σ : hb_M} {r : (Int32 × hb_M)} (h : f_L_law_b1033 G.2.2.2.2.1 G.2.2.2.2.2 k23 x1 x2 x3 x4 σ = some r) : hb_T G l true mL_law 83 (3 * n) (18 * n) 1033 [(0, .retAddr 0), (1, .ref x1), (2, .ref x2), (3, .ref x3), (4, .int x4)] [] σ (.inl (some (.int r.1)), r.2) := by
  unfold f_L_law_b1033 at h
  refine hs_goto (tgt := 2704) dL_law_1033 (by decide) ?_
  refine hs_sub (lv' := [(0, .retAddr 0), (1, .ref x1), (2, .ref x2), (3, .ref x3), (4, .int x4)]) [0, 1, 2, 3, 4] rfl ?_
  refine hs_weak (rc' := (3 * n)) (rs' := (18 * n)) (by omega) (by omega) ?_
  exact c_L_law_b2704 hl k23 hk23 h
set_option maxHeartbeats 4000000 in
set_option maxRecDepth 20000 in
theorem c_L_law_b968 {G : hb_G} {l : Launch} (hl : l.stackTraces = false) {n : Nat}  (k23 : Nat → Nat → Nat → Int32 → hb_M → Option (Int32 × hb_M)) (hk23 : ∀ (x1 : Nat) (x2 : Nat) (x3 : Nat) (x4 : Int32) (σ : hb_M) (r : (Int32 × hb_M)), k23 x1 x2 x3 x4 σ = some r → hb_T G l true mL_law 83 (3 * n) (18 * n) 23 [(0, .retAddr 0), (1, .ref x1), (2, .ref x2), (3, .ref x3), (4, .int x4)] [] σ (.inl (some (.int r.1)), r.2))  {x1 : Nat} {x2 : Nat} {x3 : Nat} {x4 : Int32} {σ : hb_M} {r : (Int32 × hb_M)} (h : f_L_law_b968 G.2.2.2.2.1 G.2.2.2.2.2 k23 x1 x2 x3 x4 σ = some r) : hb_T G l true mL_law 83 (3 * n + 3) (18 * n + 18) 968 [(0, .retAddr 0), (1, .ref x1), (2, .ref x2), (3, .ref x3), (4, .int x4)] [] σ (.inl (some (.int r.1)), r.2) := by
  unfold f_L_law_b968 at h
  refine hs_aload_n dL_law_968 1 rfl ?_
  refine hs_sload_n dL_law_969 0 rfl ?_
  refine hs_iload dL_law_970 4 rfl ?_
  refine hs_iconst (v := (1 : Int32)) dL_law_972 (by decide) ?_
  refine hs_iadd dL_law_973 ?_
  obtain ⟨r1, h1, h⟩ := hb_bind h
  refine hs_iald dL_law_974 h1 ?_
  refine hs_sload_n dL_law_975 0 rfl ?_
  refine hs_iload dL_law_976 4 rfl ?_
  refine hs_iconst (v := (2 : Int32)) dL_law_978 (by decide) ?_
  refine hs_iadd dL_law_979 ?_
  obtain ⟨r2, h2, h⟩ := hb_bind h
  refine hs_iald dL_law_980 h2 ?_
  refine hs_aload_n dL_law_981 3 rfl ?_
  refine hs_weak (rc' := 1 + 3 * n) (rs' := 6 + 18 * n) (by omega) (by omega) ?_
  obtain ⟨r3, h3, h⟩ := hb_bind h
  refine hs_callSXi (μ' := mL_removeRoot) (mc := 1) (ms := 6) (rc := (3 * n)) (rs := (18 * n)) (As := [.ref x1, .int r1, .int r2, .ref x3]) (rest := []) dL_law_982 lmL_180 okL_removeRoot rfl (by decide) rfl (Nat.le_of_ble_eq_true rfl) (c_L_removeRoot hl h3) ?_
  refine hs_istore (lv' := [(5, .int r3.1), (0, .retAddr 0), (1, .ref x1), (2, .ref x2), (3, .ref x3), (4, .int x4)]) dL_law_985 (by decide) rfl ?_
  refine hs_aload_n dL_law_987 3 rfl ?_
  refine hs_sload_n dL_law_988 1 rfl ?_
  refine hs_iload dL_law_989 5 rfl ?_
  refine hs_iconst (v := (1 : Int32)) dL_law_991 (by decide) ?_
  refine hs_iadd dL_law_992 ?_
  obtain ⟨r4, h4, h⟩ := hb_bind h
  refine hs_iald dL_law_993 h4 ?_
  refine hs_sload_n dL_law_994 1 rfl ?_
  refine hs_iload dL_law_995 5 rfl ?_
  refine hs_iconst (v := (2 : Int32)) dL_law_997 (by decide) ?_
  refine hs_iadd dL_law_998 ?_
  obtain ⟨r5, h5, h⟩ := hb_bind h
  refine hs_iald dL_law_999 h5 ?_
  refine hs_weak (rc' := 0 + 3 * n) (rs' := 0 + 18 * n) (by omega) (by omega) ?_
  obtain ⟨r6, h6, h⟩ := hb_bind h
  obtain ⟨h6, nf6, hb6⟩ := hb_on_at h6
  refine hs_callVi (μ' := mX9_removeRoot) (mc := 0) (ms := 0) (rc := (3 * n)) (rs := (18 * n)) (As := [.int r4, .int r5]) (rest := []) (ci := 9) dL_law_1000 lmL_182 okX9_removeRoot rfl (by decide) rfl (Nat.le_of_ble_eq_true rfl) rfl hb6 (c_X9_removeRoot h6) ?_
  refine hs_istore (lv' := [(6, .int r6.1), (5, .int r3.1), (0, .retAddr 0), (1, .ref x1), (2, .ref x2), (3, .ref x3), (4, .int x4)]) dL_law_1003 (by decide) rfl ?_
  refine hs_aload_n dL_law_1005 4 rfl ?_
  refine hs_weak (rc' := 0 + 3 * n) (rs' := 0 + 18 * n) (by omega) (by omega) ?_
  obtain ⟨r7, h7, h⟩ := hb_bind h
  obtain ⟨h7, nf7, hb7⟩ := hb_on_at h7
  refine hs_callVi (μ' := mX9_thrown) (mc := 0) (ms := 0) (rc := (3 * n)) (rs := (18 * n)) (As := []) (rest := []) (ci := 9) dL_law_1006 lmL_140 okX9_thrown rfl (by decide) rfl (Nat.le_of_ble_eq_true rfl) rfl hb7 (c_X9_thrown h7) ?_
  refine hs_iload dL_law_1009 1 rfl ?_
  refine hs_icmp_eq (tgt := 1016) dL_law_1011 (by decide) (fun hc8 => ?_) (fun hc8 => ?_)
  · rw [if_pos hc8] at h
    refine hs_iload dL_law_1016 1 rfl ?_
    refine hs_if_ne (tgt := 1033) dL_law_1018 (by decide) (fun hc9 => ?_) (fun hc9 => ?_)
    · rw [if_neg hc9] at h
      refine hs_sub (lv' := [(0, .retAddr 0), (1, .ref x1), (2, .ref x2), (3, .ref x3), (4, .int x4)]) [2, 3, 4, 5, 6] rfl ?_
      refine hs_weak (rc' := (3 * n)) (rs' := (18 * n)) (by omega) (by omega) ?_
      exact c_L_law_b1033 hl k23 hk23 h
    · rw [if_pos hc9] at h
      refine hs_aload_n dL_law_1021 5 rfl ?_
      refine hs_iconst (v := (0 : Int32)) dL_law_1022 (by decide) ?_
      obtain ⟨r10, h10, h⟩ := hb_bind h
      refine hs_lald dL_law_1023 h10 ?_
      refine hs_iload dL_law_1024 0 rfl ?_
      refine hs_i2l dL_law_1026 ?_
      refine hs_lcmp dL_law_1027 ?_
      refine hs_if_eq (tgt := 1033) dL_law_1028 (by decide) (fun hc11 => ?_) (fun hc11 => ?_)
      · rw [if_pos hc11] at h
        refine hs_sub (lv' := [(0, .retAddr 0), (1, .ref x1), (2, .ref x2), (3, .ref x3), (4, .int x4)]) [2, 3, 4, 5, 6] rfl ?_
        refine hs_weak (rc' := (3 * n)) (rs' := (18 * n)) (by omega) (by omega) ?_
        exact c_L_law_b1033 hl k23 hk23 h
      · rw [if_neg hc11] at h
        refine hs_iconst (v := (0 : Int32)) dL_law_1031 (by decide) ?_
        obtain rfl := Option.some.inj h
        exact hs_ireturn dL_law_1032 rfl (by decide) (fun h => by cases h)
  · rw [if_neg hc8] at h
    refine hs_iconst (v := (0 : Int32)) dL_law_1014 (by decide) ?_
    obtain rfl := Option.some.inj h
    exact hs_ireturn dL_law_1015 rfl (by decide) (fun h => by cases h)
set_option maxHeartbeats 4000000 in
set_option maxRecDepth 20000 in
theorem c_L_law_b965 {G : hb_G} {l : Launch} (hl : l.stackTraces = false) {n : Nat}  (k23 : Nat → Nat → Nat → Int32 → hb_M → Option (Int32 × hb_M)) (hk23 : ∀ (x1 : Nat) (x2 : Nat) (x3 : Nat) (x4 : Int32) (σ : hb_M) (r : (Int32 × hb_M)), k23 x1 x2 x3 x4 σ = some r → hb_T G l true mL_law 83 (3 * n) (18 * n) 23 [(0, .retAddr 0), (1, .ref x1), (2, .ref x2), (3, .ref x3), (4, .int x4)] [] σ (.inl (some (.int r.1)), r.2))  {x1 : Nat} {x2 : Nat} {x3 : Nat} {x4 : Int32} {σ : hb_M} {r : (Int32 × hb_M)} (h : f_L_law_b965 G.2.2.2.2.1 G.2.2.2.2.2 k23 x1 x2 x3 x4 σ = some r) : hb_T G l true mL_law 83 (3 * n) (18 * n) 965 [(0, .retAddr 0), (1, .ref x1), (2, .ref x2), (3, .ref x3), (4, .int x4)] [] σ (.inl (some (.int r.1)), r.2) := by
  unfold f_L_law_b965 at h
  refine hs_goto (tgt := 2704) dL_law_965 (by decide) ?_
  refine hs_sub (lv' := [(0, .retAddr 0), (1, .ref x1), (2, .ref x2), (3, .ref x3), (4, .int x4)]) [0, 1, 2, 3, 4] rfl ?_
  refine hs_weak (rc' := (3 * n)) (rs' := (18 * n)) (by omega) (by omega) ?_
  exact c_L_law_b2704 hl k23 hk23 h
set_option maxHeartbeats 4000000 in
set_option maxRecDepth 20000 in
theorem c_L_law_b900 {G : hb_G} {l : Launch} (hl : l.stackTraces = false) {n : Nat}  (k23 : Nat → Nat → Nat → Int32 → hb_M → Option (Int32 × hb_M)) (hk23 : ∀ (x1 : Nat) (x2 : Nat) (x3 : Nat) (x4 : Int32) (σ : hb_M) (r : (Int32 × hb_M)), k23 x1 x2 x3 x4 σ = some r → hb_T G l true mL_law 83 (3 * n) (18 * n) 23 [(0, .retAddr 0), (1, .ref x1), (2, .ref x2), (3, .ref x3), (4, .int x4)] [] σ (.inl (some (.int r.1)), r.2))  {x1 : Nat} {x2 : Nat} {x3 : Nat} {x4 : Int32} {σ : hb_M} {r : (Int32 × hb_M)} (h : f_L_law_b900 G.2.2.2.2.1 G.2.2.2.2.2 k23 x1 x2 x3 x4 σ = some r) : hb_T G l true mL_law 83 (3 * n + 3) (18 * n + 18) 900 [(0, .retAddr 0), (1, .ref x1), (2, .ref x2), (3, .ref x3), (4, .int x4)] [] σ (.inl (some (.int r.1)), r.2) := by
  unfold f_L_law_b900 at h
  refine hs_aload_n dL_law_900 1 rfl ?_
  refine hs_sload_n dL_law_901 0 rfl ?_
  refine hs_iload dL_law_902 4 rfl ?_
  refine hs_iconst (v := (1 : Int32)) dL_law_904 (by decide) ?_
  refine hs_iadd dL_law_905 ?_
  obtain ⟨r1, h1, h⟩ := hb_bind h
  refine hs_iald dL_law_906 h1 ?_
  refine hs_sload_n dL_law_907 0 rfl ?_
  refine hs_iload dL_law_908 4 rfl ?_
  refine hs_iconst (v := (2 : Int32)) dL_law_910 (by decide) ?_
  refine hs_iadd dL_law_911 ?_
  obtain ⟨r2, h2, h⟩ := hb_bind h
  refine hs_iald dL_law_912 h2 ?_
  refine hs_aload_n dL_law_913 3 rfl ?_
  refine hs_weak (rc' := 1 + 3 * n) (rs' := 6 + 18 * n) (by omega) (by omega) ?_
  obtain ⟨r3, h3, h⟩ := hb_bind h
  refine hs_callSXi (μ' := mL_addRoot) (mc := 1) (ms := 6) (rc := (3 * n)) (rs := (18 * n)) (As := [.ref x1, .int r1, .int r2, .ref x3]) (rest := []) dL_law_914 lmL_177 okL_addRoot rfl (by decide) rfl (Nat.le_of_ble_eq_true rfl) (c_L_addRoot hl h3) ?_
  refine hs_istore (lv' := [(5, .int r3.1), (0, .retAddr 0), (1, .ref x1), (2, .ref x2), (3, .ref x3), (4, .int x4)]) dL_law_917 (by decide) rfl ?_
  refine hs_aload_n dL_law_919 3 rfl ?_
  refine hs_sload_n dL_law_920 1 rfl ?_
  refine hs_iload dL_law_921 5 rfl ?_
  refine hs_iconst (v := (1 : Int32)) dL_law_923 (by decide) ?_
  refine hs_iadd dL_law_924 ?_
  obtain ⟨r4, h4, h⟩ := hb_bind h
  refine hs_iald dL_law_925 h4 ?_
  refine hs_sload_n dL_law_926 1 rfl ?_
  refine hs_iload dL_law_927 5 rfl ?_
  refine hs_iconst (v := (2 : Int32)) dL_law_929 (by decide) ?_
  refine hs_iadd dL_law_930 ?_
  obtain ⟨r5, h5, h⟩ := hb_bind h
  refine hs_iald dL_law_931 h5 ?_
  refine hs_weak (rc' := 0 + 3 * n) (rs' := 0 + 18 * n) (by omega) (by omega) ?_
  obtain ⟨r6, h6, h⟩ := hb_bind h
  obtain ⟨h6, nf6, hb6⟩ := hb_on_at h6
  refine hs_callVi (μ' := mX9_addRoot) (mc := 0) (ms := 0) (rc := (3 * n)) (rs := (18 * n)) (As := [.int r4, .int r5]) (rest := []) (ci := 9) dL_law_932 lmL_179 okX9_addRoot rfl (by decide) rfl (Nat.le_of_ble_eq_true rfl) rfl hb6 (c_X9_addRoot h6) ?_
  refine hs_istore (lv' := [(6, .int r6.1), (5, .int r3.1), (0, .retAddr 0), (1, .ref x1), (2, .ref x2), (3, .ref x3), (4, .int x4)]) dL_law_935 (by decide) rfl ?_
  refine hs_aload_n dL_law_937 4 rfl ?_
  refine hs_weak (rc' := 0 + 3 * n) (rs' := 0 + 18 * n) (by omega) (by omega) ?_
  obtain ⟨r7, h7, h⟩ := hb_bind h
  obtain ⟨h7, nf7, hb7⟩ := hb_on_at h7
  refine hs_callVi (μ' := mX9_thrown) (mc := 0) (ms := 0) (rc := (3 * n)) (rs := (18 * n)) (As := []) (rest := []) (ci := 9) dL_law_938 lmL_140 okX9_thrown rfl (by decide) rfl (Nat.le_of_ble_eq_true rfl) rfl hb7 (c_X9_thrown h7) ?_
  refine hs_iload dL_law_941 1 rfl ?_
  refine hs_icmp_eq (tgt := 948) dL_law_943 (by decide) (fun hc8 => ?_) (fun hc8 => ?_)
  · rw [if_pos hc8] at h
    refine hs_iload dL_law_948 1 rfl ?_
    refine hs_if_ne (tgt := 965) dL_law_950 (by decide) (fun hc9 => ?_) (fun hc9 => ?_)
    · rw [if_neg hc9] at h
      refine hs_sub (lv' := [(0, .retAddr 0), (1, .ref x1), (2, .ref x2), (3, .ref x3), (4, .int x4)]) [2, 3, 4, 5, 6] rfl ?_
      refine hs_weak (rc' := (3 * n)) (rs' := (18 * n)) (by omega) (by omega) ?_
      exact c_L_law_b965 hl k23 hk23 h
    · rw [if_pos hc9] at h
      refine hs_aload_n dL_law_953 5 rfl ?_
      refine hs_iconst (v := (0 : Int32)) dL_law_954 (by decide) ?_
      obtain ⟨r10, h10, h⟩ := hb_bind h
      refine hs_lald dL_law_955 h10 ?_
      refine hs_iload dL_law_956 0 rfl ?_
      refine hs_i2l dL_law_958 ?_
      refine hs_lcmp dL_law_959 ?_
      refine hs_if_eq (tgt := 965) dL_law_960 (by decide) (fun hc11 => ?_) (fun hc11 => ?_)
      · rw [if_pos hc11] at h
        refine hs_sub (lv' := [(0, .retAddr 0), (1, .ref x1), (2, .ref x2), (3, .ref x3), (4, .int x4)]) [2, 3, 4, 5, 6] rfl ?_
        refine hs_weak (rc' := (3 * n)) (rs' := (18 * n)) (by omega) (by omega) ?_
        exact c_L_law_b965 hl k23 hk23 h
      · rw [if_neg hc11] at h
        refine hs_iconst (v := (0 : Int32)) dL_law_963 (by decide) ?_
        obtain rfl := Option.some.inj h
        exact hs_ireturn dL_law_964 rfl (by decide) (fun h => by cases h)
  · rw [if_neg hc8] at h
    refine hs_iconst (v := (0 : Int32)) dL_law_946 (by decide) ?_
    obtain rfl := Option.some.inj h
    exact hs_ireturn dL_law_947 rfl (by decide) (fun h => by cases h)
set_option maxHeartbeats 4000000 in
set_option maxRecDepth 20000 in
theorem c_L_law_b897 {G : hb_G} {l : Launch} (hl : l.stackTraces = false) {n : Nat}  (k23 : Nat → Nat → Nat → Int32 → hb_M → Option (Int32 × hb_M)) (hk23 : ∀ (x1 : Nat) (x2 : Nat) (x3 : Nat) (x4 : Int32) (σ : hb_M) (r : (Int32 × hb_M)), k23 x1 x2 x3 x4 σ = some r → hb_T G l true mL_law 83 (3 * n) (18 * n) 23 [(0, .retAddr 0), (1, .ref x1), (2, .ref x2), (3, .ref x3), (4, .int x4)] [] σ (.inl (some (.int r.1)), r.2))  {x1 : Nat} {x2 : Nat} {x3 : Nat} {x4 : Int32} {σ : hb_M} {r : (Int32 × hb_M)} (h : f_L_law_b897 G.2.2.2.2.1 G.2.2.2.2.2 k23 x1 x2 x3 x4 σ = some r) : hb_T G l true mL_law 83 (3 * n) (18 * n) 897 [(0, .retAddr 0), (1, .ref x1), (2, .ref x2), (3, .ref x3), (4, .int x4)] [] σ (.inl (some (.int r.1)), r.2) := by
  unfold f_L_law_b897 at h
  refine hs_goto (tgt := 2704) dL_law_897 (by decide) ?_
  refine hs_sub (lv' := [(0, .retAddr 0), (1, .ref x1), (2, .ref x2), (3, .ref x3), (4, .int x4)]) [0, 1, 2, 3, 4] rfl ?_
  refine hs_weak (rc' := (3 * n)) (rs' := (18 * n)) (by omega) (by omega) ?_
  exact c_L_law_b2704 hl k23 hk23 h
set_option maxHeartbeats 4000000 in
set_option maxRecDepth 20000 in
theorem c_L_law_b844 {G : hb_G} {l : Launch} (hl : l.stackTraces = false) {n : Nat}  (k23 : Nat → Nat → Nat → Int32 → hb_M → Option (Int32 × hb_M)) (hk23 : ∀ (x1 : Nat) (x2 : Nat) (x3 : Nat) (x4 : Int32) (σ : hb_M) (r : (Int32 × hb_M)), k23 x1 x2 x3 x4 σ = some r → hb_T G l true mL_law 83 (3 * n) (18 * n) 23 [(0, .retAddr 0), (1, .ref x1), (2, .ref x2), (3, .ref x3), (4, .int x4)] [] σ (.inl (some (.int r.1)), r.2))  {x1 : Nat} {x2 : Nat} {x3 : Nat} {x4 : Int32} {σ : hb_M} {r : (Int32 × hb_M)} (h : f_L_law_b844 G.2.2.2.2.1 G.2.2.2.2.2 k23 x1 x2 x3 x4 σ = some r) : hb_T G l true mL_law 83 (3 * n + 3) (18 * n + 18) 844 [(0, .retAddr 0), (1, .ref x1), (2, .ref x2), (3, .ref x3), (4, .int x4)] [] σ (.inl (some (.int r.1)), r.2) := by
  unfold f_L_law_b844 at h
  refine hs_aload_n dL_law_844 1 rfl ?_
  refine hs_sload_n dL_law_845 0 rfl ?_
  refine hs_iload dL_law_846 4 rfl ?_
  refine hs_iconst (v := (1 : Int32)) dL_law_848 (by decide) ?_
  refine hs_iadd dL_law_849 ?_
  obtain ⟨r1, h1, h⟩ := hb_bind h
  refine hs_iald dL_law_850 h1 ?_
  refine hs_aload_n dL_law_851 3 rfl ?_
  refine hs_weak (rc' := 2 + 3 * n) (rs' := 12 + 18 * n) (by omega) (by omega) ?_
  obtain ⟨r2, h2, h⟩ := hb_bind h
  refine hs_callSXi (μ' := mL_referent) (mc := 2) (ms := 12) (rc := (3 * n)) (rs := (18 * n)) (As := [.ref x1, .int r1, .ref x3]) (rest := []) dL_law_852 lmL_174 okL_referent rfl (by decide) rfl (Nat.le_of_ble_eq_true rfl) (c_L_referent hl h2) ?_
  refine hs_istore (lv' := [(5, .int r2.1), (0, .retAddr 0), (1, .ref x1), (2, .ref x2), (3, .ref x3), (4, .int x4)]) dL_law_855 (by decide) rfl ?_
  refine hs_aload_n dL_law_857 3 rfl ?_
  refine hs_sload_n dL_law_858 1 rfl ?_
  refine hs_iload dL_law_859 5 rfl ?_
  refine hs_iconst (v := (1 : Int32)) dL_law_861 (by decide) ?_
  refine hs_iadd dL_law_862 ?_
  obtain ⟨r3, h3, h⟩ := hb_bind h
  refine hs_iald dL_law_863 h3 ?_
  refine hs_weak (rc' := 0 + 3 * n) (rs' := 0 + 18 * n) (by omega) (by omega) ?_
  obtain ⟨r4, h4, h⟩ := hb_bind h
  obtain ⟨h4, nf4, hb4⟩ := hb_on_at h4
  refine hs_callVi (μ' := mX9_referent) (mc := 0) (ms := 0) (rc := (3 * n)) (rs := (18 * n)) (As := [.int r3]) (rest := []) (ci := 9) dL_law_864 lmL_176 okX9_referent rfl (by decide) rfl (Nat.le_of_ble_eq_true rfl) rfl hb4 (c_X9_referent h4) ?_
  refine hs_istore (lv' := [(6, .int r4.1), (5, .int r2.1), (0, .retAddr 0), (1, .ref x1), (2, .ref x2), (3, .ref x3), (4, .int x4)]) dL_law_867 (by decide) rfl ?_
  refine hs_aload_n dL_law_869 4 rfl ?_
  refine hs_weak (rc' := 0 + 3 * n) (rs' := 0 + 18 * n) (by omega) (by omega) ?_
  obtain ⟨r5, h5, h⟩ := hb_bind h
  obtain ⟨h5, nf5, hb5⟩ := hb_on_at h5
  refine hs_callVi (μ' := mX9_thrown) (mc := 0) (ms := 0) (rc := (3 * n)) (rs := (18 * n)) (As := []) (rest := []) (ci := 9) dL_law_870 lmL_140 okX9_thrown rfl (by decide) rfl (Nat.le_of_ble_eq_true rfl) rfl hb5 (c_X9_thrown h5) ?_
  refine hs_iload dL_law_873 1 rfl ?_
  refine hs_icmp_eq (tgt := 880) dL_law_875 (by decide) (fun hc6 => ?_) (fun hc6 => ?_)
  · rw [if_pos hc6] at h
    refine hs_iload dL_law_880 1 rfl ?_
    refine hs_if_ne (tgt := 897) dL_law_882 (by decide) (fun hc7 => ?_) (fun hc7 => ?_)
    · rw [if_neg hc7] at h
      refine hs_sub (lv' := [(0, .retAddr 0), (1, .ref x1), (2, .ref x2), (3, .ref x3), (4, .int x4)]) [2, 3, 4, 5, 6] rfl ?_
      refine hs_weak (rc' := (3 * n)) (rs' := (18 * n)) (by omega) (by omega) ?_
      exact c_L_law_b897 hl k23 hk23 h
    · rw [if_pos hc7] at h
      refine hs_aload_n dL_law_885 5 rfl ?_
      refine hs_iconst (v := (0 : Int32)) dL_law_886 (by decide) ?_
      obtain ⟨r8, h8, h⟩ := hb_bind h
      refine hs_lald dL_law_887 h8 ?_
      refine hs_iload dL_law_888 0 rfl ?_
      refine hs_i2l dL_law_890 ?_
      refine hs_lcmp dL_law_891 ?_
      refine hs_if_eq (tgt := 897) dL_law_892 (by decide) (fun hc9 => ?_) (fun hc9 => ?_)
      · rw [if_pos hc9] at h
        refine hs_sub (lv' := [(0, .retAddr 0), (1, .ref x1), (2, .ref x2), (3, .ref x3), (4, .int x4)]) [2, 3, 4, 5, 6] rfl ?_
        refine hs_weak (rc' := (3 * n)) (rs' := (18 * n)) (by omega) (by omega) ?_
        exact c_L_law_b897 hl k23 hk23 h
      · rw [if_neg hc9] at h
        refine hs_iconst (v := (0 : Int32)) dL_law_895 (by decide) ?_
        obtain rfl := Option.some.inj h
        exact hs_ireturn dL_law_896 rfl (by decide) (fun h => by cases h)
  · rw [if_neg hc6] at h
    refine hs_iconst (v := (0 : Int32)) dL_law_878 (by decide) ?_
    obtain rfl := Option.some.inj h
    exact hs_ireturn dL_law_879 rfl (by decide) (fun h => by cases h)
set_option maxHeartbeats 4000000 in
set_option maxRecDepth 20000 in
theorem c_L_law_b841 {G : hb_G} {l : Launch} (hl : l.stackTraces = false) {n : Nat}  (k23 : Nat → Nat → Nat → Int32 → hb_M → Option (Int32 × hb_M)) (hk23 : ∀ (x1 : Nat) (x2 : Nat) (x3 : Nat) (x4 : Int32) (σ : hb_M) (r : (Int32 × hb_M)), k23 x1 x2 x3 x4 σ = some r → hb_T G l true mL_law 83 (3 * n) (18 * n) 23 [(0, .retAddr 0), (1, .ref x1), (2, .ref x2), (3, .ref x3), (4, .int x4)] [] σ (.inl (some (.int r.1)), r.2))  {x1 : Nat} {x2 : Nat} {x3 : Nat} {x4 : Int32} {σ : hb_M} {r : (Int32 × hb_M)} (h : f_L_law_b841 G.2.2.2.2.1 G.2.2.2.2.2 k23 x1 x2 x3 x4 σ = some r) : hb_T G l true mL_law 83 (3 * n) (18 * n) 841 [(0, .retAddr 0), (1, .ref x1), (2, .ref x2), (3, .ref x3), (4, .int x4)] [] σ (.inl (some (.int r.1)), r.2) := by
  unfold f_L_law_b841 at h
  refine hs_goto (tgt := 2704) dL_law_841 (by decide) ?_
  refine hs_sub (lv' := [(0, .retAddr 0), (1, .ref x1), (2, .ref x2), (3, .ref x3), (4, .int x4)]) [0, 1, 2, 3, 4] rfl ?_
  refine hs_weak (rc' := (3 * n)) (rs' := (18 * n)) (by omega) (by omega) ?_
  exact c_L_law_b2704 hl k23 hk23 h
set_option maxHeartbeats 4000000 in
set_option maxRecDepth 20000 in
theorem c_L_law_b776 {G : hb_G} {l : Launch} (hl : l.stackTraces = false) {n : Nat}  (k23 : Nat → Nat → Nat → Int32 → hb_M → Option (Int32 × hb_M)) (hk23 : ∀ (x1 : Nat) (x2 : Nat) (x3 : Nat) (x4 : Int32) (σ : hb_M) (r : (Int32 × hb_M)), k23 x1 x2 x3 x4 σ = some r → hb_T G l true mL_law 83 (3 * n) (18 * n) 23 [(0, .retAddr 0), (1, .ref x1), (2, .ref x2), (3, .ref x3), (4, .int x4)] [] σ (.inl (some (.int r.1)), r.2))  {x1 : Nat} {x2 : Nat} {x3 : Nat} {x4 : Int32} {σ : hb_M} {r : (Int32 × hb_M)} (h : f_L_law_b776 G.2.2.2.2.1 G.2.2.2.2.2 k23 x1 x2 x3 x4 σ = some r) : hb_T G l true mL_law 83 (3 * n + 3) (18 * n + 18) 776 [(0, .retAddr 0), (1, .ref x1), (2, .ref x2), (3, .ref x3), (4, .int x4)] [] σ (.inl (some (.int r.1)), r.2) := by
  unfold f_L_law_b776 at h
  refine hs_aload_n dL_law_776 1 rfl ?_
  refine hs_sload_n dL_law_777 0 rfl ?_
  refine hs_iload dL_law_778 4 rfl ?_
  refine hs_iconst (v := (1 : Int32)) dL_law_780 (by decide) ?_
  refine hs_iadd dL_law_781 ?_
  obtain ⟨r1, h1, h⟩ := hb_bind h
  refine hs_iald dL_law_782 h1 ?_
  refine hs_sload_n dL_law_783 0 rfl ?_
  refine hs_iload dL_law_784 4 rfl ?_
  refine hs_iconst (v := (2 : Int32)) dL_law_786 (by decide) ?_
  refine hs_iadd dL_law_787 ?_
  obtain ⟨r2, h2, h⟩ := hb_bind h
  refine hs_iald dL_law_788 h2 ?_
  refine hs_aload_n dL_law_789 3 rfl ?_
  refine hs_weak (rc' := 1 + 3 * n) (rs' := 6 + 18 * n) (by omega) (by omega) ?_
  obtain ⟨r3, h3, h⟩ := hb_bind h
  refine hs_callSXi (μ' := mL_resizeArray) (mc := 1) (ms := 6) (rc := (3 * n)) (rs := (18 * n)) (As := [.ref x1, .int r1, .int r2, .ref x3]) (rest := []) dL_law_790 lmL_171 okL_resizeArray rfl (by decide) rfl (Nat.le_of_ble_eq_true rfl) (c_L_resizeArray hl h3) ?_
  refine hs_istore (lv' := [(5, .int r3.1), (0, .retAddr 0), (1, .ref x1), (2, .ref x2), (3, .ref x3), (4, .int x4)]) dL_law_793 (by decide) rfl ?_
  refine hs_aload_n dL_law_795 3 rfl ?_
  refine hs_sload_n dL_law_796 1 rfl ?_
  refine hs_iload dL_law_797 5 rfl ?_
  refine hs_iconst (v := (1 : Int32)) dL_law_799 (by decide) ?_
  refine hs_iadd dL_law_800 ?_
  obtain ⟨r4, h4, h⟩ := hb_bind h
  refine hs_iald dL_law_801 h4 ?_
  refine hs_sload_n dL_law_802 1 rfl ?_
  refine hs_iload dL_law_803 5 rfl ?_
  refine hs_iconst (v := (2 : Int32)) dL_law_805 (by decide) ?_
  refine hs_iadd dL_law_806 ?_
  obtain ⟨r5, h5, h⟩ := hb_bind h
  refine hs_iald dL_law_807 h5 ?_
  refine hs_weak (rc' := 0 + 3 * n) (rs' := 0 + 18 * n) (by omega) (by omega) ?_
  obtain ⟨r6, h6, h⟩ := hb_bind h
  obtain ⟨h6, nf6, hb6⟩ := hb_on_at h6
  refine hs_callVi (μ' := mX9_resizeArray) (mc := 0) (ms := 0) (rc := (3 * n)) (rs := (18 * n)) (As := [.int r4, .int r5]) (rest := []) (ci := 9) dL_law_808 lmL_173 okX9_resizeArray rfl (by decide) rfl (Nat.le_of_ble_eq_true rfl) rfl hb6 (c_X9_resizeArray h6) ?_
  refine hs_istore (lv' := [(6, .int r6.1), (5, .int r3.1), (0, .retAddr 0), (1, .ref x1), (2, .ref x2), (3, .ref x3), (4, .int x4)]) dL_law_811 (by decide) rfl ?_
  refine hs_aload_n dL_law_813 4 rfl ?_
  refine hs_weak (rc' := 0 + 3 * n) (rs' := 0 + 18 * n) (by omega) (by omega) ?_
  obtain ⟨r7, h7, h⟩ := hb_bind h
  obtain ⟨h7, nf7, hb7⟩ := hb_on_at h7
  refine hs_callVi (μ' := mX9_thrown) (mc := 0) (ms := 0) (rc := (3 * n)) (rs := (18 * n)) (As := []) (rest := []) (ci := 9) dL_law_814 lmL_140 okX9_thrown rfl (by decide) rfl (Nat.le_of_ble_eq_true rfl) rfl hb7 (c_X9_thrown h7) ?_
  refine hs_iload dL_law_817 1 rfl ?_
  refine hs_icmp_eq (tgt := 824) dL_law_819 (by decide) (fun hc8 => ?_) (fun hc8 => ?_)
  · rw [if_pos hc8] at h
    refine hs_iload dL_law_824 1 rfl ?_
    refine hs_if_ne (tgt := 841) dL_law_826 (by decide) (fun hc9 => ?_) (fun hc9 => ?_)
    · rw [if_neg hc9] at h
      refine hs_sub (lv' := [(0, .retAddr 0), (1, .ref x1), (2, .ref x2), (3, .ref x3), (4, .int x4)]) [2, 3, 4, 5, 6] rfl ?_
      refine hs_weak (rc' := (3 * n)) (rs' := (18 * n)) (by omega) (by omega) ?_
      exact c_L_law_b841 hl k23 hk23 h
    · rw [if_pos hc9] at h
      refine hs_aload_n dL_law_829 5 rfl ?_
      refine hs_iconst (v := (0 : Int32)) dL_law_830 (by decide) ?_
      obtain ⟨r10, h10, h⟩ := hb_bind h
      refine hs_lald dL_law_831 h10 ?_
      refine hs_iload dL_law_832 0 rfl ?_
      refine hs_i2l dL_law_834 ?_
      refine hs_lcmp dL_law_835 ?_
      refine hs_if_eq (tgt := 841) dL_law_836 (by decide) (fun hc11 => ?_) (fun hc11 => ?_)
      · rw [if_pos hc11] at h
        refine hs_sub (lv' := [(0, .retAddr 0), (1, .ref x1), (2, .ref x2), (3, .ref x3), (4, .int x4)]) [2, 3, 4, 5, 6] rfl ?_
        refine hs_weak (rc' := (3 * n)) (rs' := (18 * n)) (by omega) (by omega) ?_
        exact c_L_law_b841 hl k23 hk23 h
      · rw [if_neg hc11] at h
        refine hs_iconst (v := (0 : Int32)) dL_law_839 (by decide) ?_
        obtain rfl := Option.some.inj h
        exact hs_ireturn dL_law_840 rfl (by decide) (fun h => by cases h)
  · rw [if_neg hc8] at h
    refine hs_iconst (v := (0 : Int32)) dL_law_822 (by decide) ?_
    obtain rfl := Option.some.inj h
    exact hs_ireturn dL_law_823 rfl (by decide) (fun h => by cases h)
set_option maxHeartbeats 4000000 in
set_option maxRecDepth 20000 in
theorem c_L_law_b773 {G : hb_G} {l : Launch} (hl : l.stackTraces = false) {n : Nat}  (k23 : Nat → Nat → Nat → Int32 → hb_M → Option (Int32 × hb_M)) (hk23 : ∀ (x1 : Nat) (x2 : Nat) (x3 : Nat) (x4 : Int32) (σ : hb_M) (r : (Int32 × hb_M)), k23 x1 x2 x3 x4 σ = some r → hb_T G l true mL_law 83 (3 * n) (18 * n) 23 [(0, .retAddr 0), (1, .ref x1), (2, .ref x2), (3, .ref x3), (4, .int x4)] [] σ (.inl (some (.int r.1)), r.2))  {x1 : Nat} {x2 : Nat} {x3 : Nat} {x4 : Int32} {σ : hb_M} {r : (Int32 × hb_M)} (h : f_L_law_b773 G.2.2.2.2.1 G.2.2.2.2.2 k23 x1 x2 x3 x4 σ = some r) : hb_T G l true mL_law 83 (3 * n) (18 * n) 773 [(0, .retAddr 0), (1, .ref x1), (2, .ref x2), (3, .ref x3), (4, .int x4)] [] σ (.inl (some (.int r.1)), r.2) := by
  unfold f_L_law_b773 at h
  refine hs_goto (tgt := 2704) dL_law_773 (by decide) ?_
  refine hs_sub (lv' := [(0, .retAddr 0), (1, .ref x1), (2, .ref x2), (3, .ref x3), (4, .int x4)]) [0, 1, 2, 3, 4] rfl ?_
  refine hs_weak (rc' := (3 * n)) (rs' := (18 * n)) (by omega) (by omega) ?_
  exact c_L_law_b2704 hl k23 hk23 h
set_option maxHeartbeats 4000000 in
set_option maxRecDepth 20000 in
theorem c_L_law_b708 {G : hb_G} {l : Launch} (hl : l.stackTraces = false) {n : Nat}  (k23 : Nat → Nat → Nat → Int32 → hb_M → Option (Int32 × hb_M)) (hk23 : ∀ (x1 : Nat) (x2 : Nat) (x3 : Nat) (x4 : Int32) (σ : hb_M) (r : (Int32 × hb_M)), k23 x1 x2 x3 x4 σ = some r → hb_T G l true mL_law 83 (3 * n) (18 * n) 23 [(0, .retAddr 0), (1, .ref x1), (2, .ref x2), (3, .ref x3), (4, .int x4)] [] σ (.inl (some (.int r.1)), r.2))  {x1 : Nat} {x2 : Nat} {x3 : Nat} {x4 : Int32} {σ : hb_M} {r : (Int32 × hb_M)} (h : f_L_law_b708 G.2.2.2.2.1 G.2.2.2.2.2 k23 x1 x2 x3 x4 σ = some r) : hb_T G l true mL_law 83 (3 * n + 3) (18 * n + 18) 708 [(0, .retAddr 0), (1, .ref x1), (2, .ref x2), (3, .ref x3), (4, .int x4)] [] σ (.inl (some (.int r.1)), r.2) := by
  unfold f_L_law_b708 at h
  refine hs_aload_n dL_law_708 1 rfl ?_
  refine hs_sload_n dL_law_709 0 rfl ?_
  refine hs_iload dL_law_710 4 rfl ?_
  refine hs_iconst (v := (1 : Int32)) dL_law_712 (by decide) ?_
  refine hs_iadd dL_law_713 ?_
  obtain ⟨r1, h1, h⟩ := hb_bind h
  refine hs_iald dL_law_714 h1 ?_
  refine hs_sload_n dL_law_715 0 rfl ?_
  refine hs_iload dL_law_716 4 rfl ?_
  refine hs_iconst (v := (2 : Int32)) dL_law_718 (by decide) ?_
  refine hs_iadd dL_law_719 ?_
  obtain ⟨r2, h2, h⟩ := hb_bind h
  refine hs_iald dL_law_720 h2 ?_
  refine hs_aload_n dL_law_721 3 rfl ?_
  refine hs_weak (rc' := 1 + 3 * n) (rs' := 6 + 18 * n) (by omega) (by omega) ?_
  obtain ⟨r3, h3, h⟩ := hb_bind h
  refine hs_callSXi (μ' := mL_get) (mc := 1) (ms := 6) (rc := (3 * n)) (rs := (18 * n)) (As := [.ref x1, .int r1, .int r2, .ref x3]) (rest := []) dL_law_722 lmL_168 okL_get rfl (by decide) rfl (Nat.le_of_ble_eq_true rfl) (c_L_get hl h3) ?_
  refine hs_istore (lv' := [(5, .int r3.1), (0, .retAddr 0), (1, .ref x1), (2, .ref x2), (3, .ref x3), (4, .int x4)]) dL_law_725 (by decide) rfl ?_
  refine hs_aload_n dL_law_727 3 rfl ?_
  refine hs_sload_n dL_law_728 1 rfl ?_
  refine hs_iload dL_law_729 5 rfl ?_
  refine hs_iconst (v := (1 : Int32)) dL_law_731 (by decide) ?_
  refine hs_iadd dL_law_732 ?_
  obtain ⟨r4, h4, h⟩ := hb_bind h
  refine hs_iald dL_law_733 h4 ?_
  refine hs_sload_n dL_law_734 1 rfl ?_
  refine hs_iload dL_law_735 5 rfl ?_
  refine hs_iconst (v := (2 : Int32)) dL_law_737 (by decide) ?_
  refine hs_iadd dL_law_738 ?_
  obtain ⟨r5, h5, h⟩ := hb_bind h
  refine hs_iald dL_law_739 h5 ?_
  refine hs_weak (rc' := 0 + 3 * n) (rs' := 0 + 18 * n) (by omega) (by omega) ?_
  obtain ⟨r6, h6, h⟩ := hb_bind h
  obtain ⟨h6, nf6, hb6⟩ := hb_on_at h6
  refine hs_callVi (μ' := mX9_get) (mc := 0) (ms := 0) (rc := (3 * n)) (rs := (18 * n)) (As := [.int r4, .int r5]) (rest := []) (ci := 9) dL_law_740 lmL_170 okX9_get rfl (by decide) rfl (Nat.le_of_ble_eq_true rfl) rfl hb6 (c_X9_get h6) ?_
  refine hs_istore (lv' := [(6, .int r6.1), (5, .int r3.1), (0, .retAddr 0), (1, .ref x1), (2, .ref x2), (3, .ref x3), (4, .int x4)]) dL_law_743 (by decide) rfl ?_
  refine hs_aload_n dL_law_745 4 rfl ?_
  refine hs_weak (rc' := 0 + 3 * n) (rs' := 0 + 18 * n) (by omega) (by omega) ?_
  obtain ⟨r7, h7, h⟩ := hb_bind h
  obtain ⟨h7, nf7, hb7⟩ := hb_on_at h7
  refine hs_callVi (μ' := mX9_thrown) (mc := 0) (ms := 0) (rc := (3 * n)) (rs := (18 * n)) (As := []) (rest := []) (ci := 9) dL_law_746 lmL_140 okX9_thrown rfl (by decide) rfl (Nat.le_of_ble_eq_true rfl) rfl hb7 (c_X9_thrown h7) ?_
  refine hs_iload dL_law_749 1 rfl ?_
  refine hs_icmp_eq (tgt := 756) dL_law_751 (by decide) (fun hc8 => ?_) (fun hc8 => ?_)
  · rw [if_pos hc8] at h
    refine hs_iload dL_law_756 1 rfl ?_
    refine hs_if_ne (tgt := 773) dL_law_758 (by decide) (fun hc9 => ?_) (fun hc9 => ?_)
    · rw [if_neg hc9] at h
      refine hs_sub (lv' := [(0, .retAddr 0), (1, .ref x1), (2, .ref x2), (3, .ref x3), (4, .int x4)]) [2, 3, 4, 5, 6] rfl ?_
      refine hs_weak (rc' := (3 * n)) (rs' := (18 * n)) (by omega) (by omega) ?_
      exact c_L_law_b773 hl k23 hk23 h
    · rw [if_pos hc9] at h
      refine hs_aload_n dL_law_761 5 rfl ?_
      refine hs_iconst (v := (0 : Int32)) dL_law_762 (by decide) ?_
      obtain ⟨r10, h10, h⟩ := hb_bind h
      refine hs_lald dL_law_763 h10 ?_
      refine hs_iload dL_law_764 0 rfl ?_
      refine hs_i2l dL_law_766 ?_
      refine hs_lcmp dL_law_767 ?_
      refine hs_if_eq (tgt := 773) dL_law_768 (by decide) (fun hc11 => ?_) (fun hc11 => ?_)
      · rw [if_pos hc11] at h
        refine hs_sub (lv' := [(0, .retAddr 0), (1, .ref x1), (2, .ref x2), (3, .ref x3), (4, .int x4)]) [2, 3, 4, 5, 6] rfl ?_
        refine hs_weak (rc' := (3 * n)) (rs' := (18 * n)) (by omega) (by omega) ?_
        exact c_L_law_b773 hl k23 hk23 h
      · rw [if_neg hc11] at h
        refine hs_iconst (v := (0 : Int32)) dL_law_771 (by decide) ?_
        obtain rfl := Option.some.inj h
        exact hs_ireturn dL_law_772 rfl (by decide) (fun h => by cases h)
  · rw [if_neg hc8] at h
    refine hs_iconst (v := (0 : Int32)) dL_law_754 (by decide) ?_
    obtain rfl := Option.some.inj h
    exact hs_ireturn dL_law_755 rfl (by decide) (fun h => by cases h)
set_option maxHeartbeats 4000000 in
set_option maxRecDepth 20000 in
theorem c_L_law_b705 {G : hb_G} {l : Launch} (hl : l.stackTraces = false) {n : Nat}  (k23 : Nat → Nat → Nat → Int32 → hb_M → Option (Int32 × hb_M)) (hk23 : ∀ (x1 : Nat) (x2 : Nat) (x3 : Nat) (x4 : Int32) (σ : hb_M) (r : (Int32 × hb_M)), k23 x1 x2 x3 x4 σ = some r → hb_T G l true mL_law 83 (3 * n) (18 * n) 23 [(0, .retAddr 0), (1, .ref x1), (2, .ref x2), (3, .ref x3), (4, .int x4)] [] σ (.inl (some (.int r.1)), r.2))  {x1 : Nat} {x2 : Nat} {x3 : Nat} {x4 : Int32} {σ : hb_M} {r : (Int32 × hb_M)} (h : f_L_law_b705 G.2.2.2.2.1 G.2.2.2.2.2 k23 x1 x2 x3 x4 σ = some r) : hb_T G l true mL_law 83 (3 * n) (18 * n) 705 [(0, .retAddr 0), (1, .ref x1), (2, .ref x2), (3, .ref x3), (4, .int x4)] [] σ (.inl (some (.int r.1)), r.2) := by
  unfold f_L_law_b705 at h
  refine hs_goto (tgt := 2704) dL_law_705 (by decide) ?_
  refine hs_sub (lv' := [(0, .retAddr 0), (1, .ref x1), (2, .ref x2), (3, .ref x3), (4, .int x4)]) [0, 1, 2, 3, 4] rfl ?_
  refine hs_weak (rc' := (3 * n)) (rs' := (18 * n)) (by omega) (by omega) ?_
  exact c_L_law_b2704 hl k23 hk23 h
set_option maxHeartbeats 4000000 in
set_option maxRecDepth 20000 in
theorem c_L_law_b628 {G : hb_G} {l : Launch} (hl : l.stackTraces = false) {n : Nat}  (k23 : Nat → Nat → Nat → Int32 → hb_M → Option (Int32 × hb_M)) (hk23 : ∀ (x1 : Nat) (x2 : Nat) (x3 : Nat) (x4 : Int32) (σ : hb_M) (r : (Int32 × hb_M)), k23 x1 x2 x3 x4 σ = some r → hb_T G l true mL_law 83 (3 * n) (18 * n) 23 [(0, .retAddr 0), (1, .ref x1), (2, .ref x2), (3, .ref x3), (4, .int x4)] [] σ (.inl (some (.int r.1)), r.2))  {x1 : Nat} {x2 : Nat} {x3 : Nat} {x4 : Int32} {σ : hb_M} {r : (Int32 × hb_M)} (h : f_L_law_b628 G.2.2.2.2.1 G.2.2.2.2.2 k23 x1 x2 x3 x4 σ = some r) : hb_T G l true mL_law 83 (3 * n + 3) (18 * n + 18) 628 [(0, .retAddr 0), (1, .ref x1), (2, .ref x2), (3, .ref x3), (4, .int x4)] [] σ (.inl (some (.int r.1)), r.2) := by
  unfold f_L_law_b628 at h
  refine hs_aload_n dL_law_628 1 rfl ?_
  refine hs_sload_n dL_law_629 0 rfl ?_
  refine hs_iload dL_law_630 4 rfl ?_
  refine hs_iconst (v := (1 : Int32)) dL_law_632 (by decide) ?_
  refine hs_iadd dL_law_633 ?_
  obtain ⟨r1, h1, h⟩ := hb_bind h
  refine hs_iald dL_law_634 h1 ?_
  refine hs_sload_n dL_law_635 0 rfl ?_
  refine hs_iload dL_law_636 4 rfl ?_
  refine hs_iconst (v := (2 : Int32)) dL_law_638 (by decide) ?_
  refine hs_iadd dL_law_639 ?_
  obtain ⟨r2, h2, h⟩ := hb_bind h
  refine hs_iald dL_law_640 h2 ?_
  refine hs_sload_n dL_law_641 0 rfl ?_
  refine hs_iload dL_law_642 4 rfl ?_
  refine hs_iconst (v := (3 : Int32)) dL_law_644 (by decide) ?_
  refine hs_iadd dL_law_645 ?_
  obtain ⟨r3, h3, h⟩ := hb_bind h
  refine hs_iald dL_law_646 h3 ?_
  refine hs_aload_n dL_law_647 3 rfl ?_
  refine hs_weak (rc' := 1 + 3 * n) (rs' := 6 + 18 * n) (by omega) (by omega) ?_
  obtain ⟨r4, h4, h⟩ := hb_bind h
  refine hs_callSXi (μ' := mL_set) (mc := 1) (ms := 6) (rc := (3 * n)) (rs := (18 * n)) (As := [.ref x1, .int r1, .int r2, .int r3, .ref x3]) (rest := []) dL_law_648 lmL_165 okL_set rfl (by decide) rfl (Nat.le_of_ble_eq_true rfl) (c_L_set hl h4) ?_
  refine hs_istore (lv' := [(5, .int r4.1), (0, .retAddr 0), (1, .ref x1), (2, .ref x2), (3, .ref x3), (4, .int x4)]) dL_law_651 (by decide) rfl ?_
  refine hs_aload_n dL_law_653 3 rfl ?_
  refine hs_sload_n dL_law_654 1 rfl ?_
  refine hs_iload dL_law_655 5 rfl ?_
  refine hs_iconst (v := (1 : Int32)) dL_law_657 (by decide) ?_
  refine hs_iadd dL_law_658 ?_
  obtain ⟨r5, h5, h⟩ := hb_bind h
  refine hs_iald dL_law_659 h5 ?_
  refine hs_sload_n dL_law_660 1 rfl ?_
  refine hs_iload dL_law_661 5 rfl ?_
  refine hs_iconst (v := (2 : Int32)) dL_law_663 (by decide) ?_
  refine hs_iadd dL_law_664 ?_
  obtain ⟨r6, h6, h⟩ := hb_bind h
  refine hs_iald dL_law_665 h6 ?_
  refine hs_sload_n dL_law_666 1 rfl ?_
  refine hs_iload dL_law_667 5 rfl ?_
  refine hs_iconst (v := (3 : Int32)) dL_law_669 (by decide) ?_
  refine hs_iadd dL_law_670 ?_
  obtain ⟨r7, h7, h⟩ := hb_bind h
  refine hs_iald dL_law_671 h7 ?_
  refine hs_weak (rc' := 0 + 3 * n) (rs' := 0 + 18 * n) (by omega) (by omega) ?_
  obtain ⟨r8, h8, h⟩ := hb_bind h
  obtain ⟨h8, nf8, hb8⟩ := hb_on_at h8
  refine hs_callVi (μ' := mX9_set) (mc := 0) (ms := 0) (rc := (3 * n)) (rs := (18 * n)) (As := [.int r5, .int r6, .int r7]) (rest := []) (ci := 9) dL_law_672 lmL_167 okX9_set rfl (by decide) rfl (Nat.le_of_ble_eq_true rfl) rfl hb8 (c_X9_set h8) ?_
  refine hs_istore (lv' := [(6, .int r8.1), (5, .int r4.1), (0, .retAddr 0), (1, .ref x1), (2, .ref x2), (3, .ref x3), (4, .int x4)]) dL_law_675 (by decide) rfl ?_
  refine hs_aload_n dL_law_677 4 rfl ?_
  refine hs_weak (rc' := 0 + 3 * n) (rs' := 0 + 18 * n) (by omega) (by omega) ?_
  obtain ⟨r9, h9, h⟩ := hb_bind h
  obtain ⟨h9, nf9, hb9⟩ := hb_on_at h9
  refine hs_callVi (μ' := mX9_thrown) (mc := 0) (ms := 0) (rc := (3 * n)) (rs := (18 * n)) (As := []) (rest := []) (ci := 9) dL_law_678 lmL_140 okX9_thrown rfl (by decide) rfl (Nat.le_of_ble_eq_true rfl) rfl hb9 (c_X9_thrown h9) ?_
  refine hs_iload dL_law_681 1 rfl ?_
  refine hs_icmp_eq (tgt := 688) dL_law_683 (by decide) (fun hc10 => ?_) (fun hc10 => ?_)
  · rw [if_pos hc10] at h
    refine hs_iload dL_law_688 1 rfl ?_
    refine hs_if_ne (tgt := 705) dL_law_690 (by decide) (fun hc11 => ?_) (fun hc11 => ?_)
    · rw [if_neg hc11] at h
      refine hs_sub (lv' := [(0, .retAddr 0), (1, .ref x1), (2, .ref x2), (3, .ref x3), (4, .int x4)]) [2, 3, 4, 5, 6] rfl ?_
      refine hs_weak (rc' := (3 * n)) (rs' := (18 * n)) (by omega) (by omega) ?_
      exact c_L_law_b705 hl k23 hk23 h
    · rw [if_pos hc11] at h
      refine hs_aload_n dL_law_693 5 rfl ?_
      refine hs_iconst (v := (0 : Int32)) dL_law_694 (by decide) ?_
      obtain ⟨r12, h12, h⟩ := hb_bind h
      refine hs_lald dL_law_695 h12 ?_
      refine hs_iload dL_law_696 0 rfl ?_
      refine hs_i2l dL_law_698 ?_
      refine hs_lcmp dL_law_699 ?_
      refine hs_if_eq (tgt := 705) dL_law_700 (by decide) (fun hc13 => ?_) (fun hc13 => ?_)
      · rw [if_pos hc13] at h
        refine hs_sub (lv' := [(0, .retAddr 0), (1, .ref x1), (2, .ref x2), (3, .ref x3), (4, .int x4)]) [2, 3, 4, 5, 6] rfl ?_
        refine hs_weak (rc' := (3 * n)) (rs' := (18 * n)) (by omega) (by omega) ?_
        exact c_L_law_b705 hl k23 hk23 h
      · rw [if_neg hc13] at h
        refine hs_iconst (v := (0 : Int32)) dL_law_703 (by decide) ?_
        obtain rfl := Option.some.inj h
        exact hs_ireturn dL_law_704 rfl (by decide) (fun h => by cases h)
  · rw [if_neg hc10] at h
    refine hs_iconst (v := (0 : Int32)) dL_law_686 (by decide) ?_
    obtain rfl := Option.some.inj h
    exact hs_ireturn dL_law_687 rfl (by decide) (fun h => by cases h)
set_option maxHeartbeats 4000000 in
set_option maxRecDepth 20000 in
theorem c_L_law_b625 {G : hb_G} {l : Launch} (hl : l.stackTraces = false) {n : Nat}  (k23 : Nat → Nat → Nat → Int32 → hb_M → Option (Int32 × hb_M)) (hk23 : ∀ (x1 : Nat) (x2 : Nat) (x3 : Nat) (x4 : Int32) (σ : hb_M) (r : (Int32 × hb_M)), k23 x1 x2 x3 x4 σ = some r → hb_T G l true mL_law 83 (3 * n) (18 * n) 23 [(0, .retAddr 0), (1, .ref x1), (2, .ref x2), (3, .ref x3), (4, .int x4)] [] σ (.inl (some (.int r.1)), r.2))  {x1 : Nat} {x2 : Nat} {x3 : Nat} {x4 : Int32} {σ : hb_M} {r : (Int32 × hb_M)} (h : f_L_law_b625 G.2.2.2.2.1 G.2.2.2.2.2 k23 x1 x2 x3 x4 σ = some r) : hb_T G l true mL_law 83 (3 * n) (18 * n) 625 [(0, .retAddr 0), (1, .ref x1), (2, .ref x2), (3, .ref x3), (4, .int x4)] [] σ (.inl (some (.int r.1)), r.2) := by
  unfold f_L_law_b625 at h
  refine hs_goto (tgt := 2704) dL_law_625 (by decide) ?_
  refine hs_sub (lv' := [(0, .retAddr 0), (1, .ref x1), (2, .ref x2), (3, .ref x3), (4, .int x4)]) [0, 1, 2, 3, 4] rfl ?_
  refine hs_weak (rc' := (3 * n)) (rs' := (18 * n)) (by omega) (by omega) ?_
  exact c_L_law_b2704 hl k23 hk23 h
set_option maxHeartbeats 4000000 in
set_option maxRecDepth 20000 in
theorem c_L_law_b584 {G : hb_G} {l : Launch} (hl : l.stackTraces = false) {n : Nat}  (k23 : Nat → Nat → Nat → Int32 → hb_M → Option (Int32 × hb_M)) (hk23 : ∀ (x1 : Nat) (x2 : Nat) (x3 : Nat) (x4 : Int32) (σ : hb_M) (r : (Int32 × hb_M)), k23 x1 x2 x3 x4 σ = some r → hb_T G l true mL_law 83 (3 * n) (18 * n) 23 [(0, .retAddr 0), (1, .ref x1), (2, .ref x2), (3, .ref x3), (4, .int x4)] [] σ (.inl (some (.int r.1)), r.2))  {x1 : Nat} {x2 : Nat} {x3 : Nat} {x4 : Int32} {σ : hb_M} {r : (Int32 × hb_M)} (h : f_L_law_b584 G.2.2.2.2.1 G.2.2.2.2.2 k23 x1 x2 x3 x4 σ = some r) : hb_T G l true mL_law 83 (3 * n + 3) (18 * n + 18) 584 [(0, .retAddr 0), (1, .ref x1), (2, .ref x2), (3, .ref x3), (4, .int x4)] [] σ (.inl (some (.int r.1)), r.2) := by
  unfold f_L_law_b584 at h
  refine hs_aload_n dL_law_584 1 rfl ?_
  refine hs_aload_n dL_law_585 3 rfl ?_
  refine hs_weak (rc' := 1 + 3 * n) (rs' := 6 + 18 * n) (by omega) (by omega) ?_
  obtain ⟨r1, h1, h⟩ := hb_bind h
  refine hs_callSXi (μ' := mL_newHolder) (mc := 1) (ms := 6) (rc := (3 * n)) (rs := (18 * n)) (As := [.ref x1, .ref x3]) (rest := []) dL_law_586 lmL_161 okL_newHolder rfl (by decide) rfl (Nat.le_of_ble_eq_true rfl) (c_L_newHolder hl h1) ?_
  refine hs_istore (lv' := [(5, .int r1.1), (0, .retAddr 0), (1, .ref x1), (2, .ref x2), (3, .ref x3), (4, .int x4)]) dL_law_589 (by decide) rfl ?_
  refine hs_aload_n dL_law_591 3 rfl ?_
  refine hs_weak (rc' := 0 + 3 * n) (rs' := 0 + 18 * n) (by omega) (by omega) ?_
  obtain ⟨r2, h2, h⟩ := hb_bind h
  obtain ⟨h2, nf2, hb2⟩ := hb_on_at h2
  refine hs_callVi (μ' := mX9_newHolder) (mc := 0) (ms := 0) (rc := (3 * n)) (rs := (18 * n)) (As := []) (rest := []) (ci := 9) dL_law_592 lmL_164 okX9_newHolder rfl (by decide) rfl (Nat.le_of_ble_eq_true rfl) rfl hb2 (c_X9_newHolder h2) ?_
  refine hs_istore (lv' := [(6, .int r2.1), (5, .int r1.1), (0, .retAddr 0), (1, .ref x1), (2, .ref x2), (3, .ref x3), (4, .int x4)]) dL_law_595 (by decide) rfl ?_
  refine hs_aload_n dL_law_597 4 rfl ?_
  refine hs_weak (rc' := 0 + 3 * n) (rs' := 0 + 18 * n) (by omega) (by omega) ?_
  obtain ⟨r3, h3, h⟩ := hb_bind h
  obtain ⟨h3, nf3, hb3⟩ := hb_on_at h3
  refine hs_callVi (μ' := mX9_thrown) (mc := 0) (ms := 0) (rc := (3 * n)) (rs := (18 * n)) (As := []) (rest := []) (ci := 9) dL_law_598 lmL_140 okX9_thrown rfl (by decide) rfl (Nat.le_of_ble_eq_true rfl) rfl hb3 (c_X9_thrown h3) ?_
  refine hs_iload dL_law_601 1 rfl ?_
  refine hs_icmp_eq (tgt := 608) dL_law_603 (by decide) (fun hc4 => ?_) (fun hc4 => ?_)
  · rw [if_pos hc4] at h
    refine hs_iload dL_law_608 1 rfl ?_
    refine hs_if_ne (tgt := 625) dL_law_610 (by decide) (fun hc5 => ?_) (fun hc5 => ?_)
    · rw [if_neg hc5] at h
      refine hs_sub (lv' := [(0, .retAddr 0), (1, .ref x1), (2, .ref x2), (3, .ref x3), (4, .int x4)]) [2, 3, 4, 5, 6] rfl ?_
      refine hs_weak (rc' := (3 * n)) (rs' := (18 * n)) (by omega) (by omega) ?_
      exact c_L_law_b625 hl k23 hk23 h
    · rw [if_pos hc5] at h
      refine hs_aload_n dL_law_613 5 rfl ?_
      refine hs_iconst (v := (0 : Int32)) dL_law_614 (by decide) ?_
      obtain ⟨r6, h6, h⟩ := hb_bind h
      refine hs_lald dL_law_615 h6 ?_
      refine hs_iload dL_law_616 0 rfl ?_
      refine hs_i2l dL_law_618 ?_
      refine hs_lcmp dL_law_619 ?_
      refine hs_if_eq (tgt := 625) dL_law_620 (by decide) (fun hc7 => ?_) (fun hc7 => ?_)
      · rw [if_pos hc7] at h
        refine hs_sub (lv' := [(0, .retAddr 0), (1, .ref x1), (2, .ref x2), (3, .ref x3), (4, .int x4)]) [2, 3, 4, 5, 6] rfl ?_
        refine hs_weak (rc' := (3 * n)) (rs' := (18 * n)) (by omega) (by omega) ?_
        exact c_L_law_b625 hl k23 hk23 h
      · rw [if_neg hc7] at h
        refine hs_iconst (v := (0 : Int32)) dL_law_623 (by decide) ?_
        obtain rfl := Option.some.inj h
        exact hs_ireturn dL_law_624 rfl (by decide) (fun h => by cases h)
  · rw [if_neg hc4] at h
    refine hs_iconst (v := (0 : Int32)) dL_law_606 (by decide) ?_
    obtain rfl := Option.some.inj h
    exact hs_ireturn dL_law_607 rfl (by decide) (fun h => by cases h)
set_option maxHeartbeats 4000000 in
set_option maxRecDepth 20000 in
theorem c_L_law_b581 {G : hb_G} {l : Launch} (hl : l.stackTraces = false) {n : Nat}  (k23 : Nat → Nat → Nat → Int32 → hb_M → Option (Int32 × hb_M)) (hk23 : ∀ (x1 : Nat) (x2 : Nat) (x3 : Nat) (x4 : Int32) (σ : hb_M) (r : (Int32 × hb_M)), k23 x1 x2 x3 x4 σ = some r → hb_T G l true mL_law 83 (3 * n) (18 * n) 23 [(0, .retAddr 0), (1, .ref x1), (2, .ref x2), (3, .ref x3), (4, .int x4)] [] σ (.inl (some (.int r.1)), r.2))  {x1 : Nat} {x2 : Nat} {x3 : Nat} {x4 : Int32} {σ : hb_M} {r : (Int32 × hb_M)} (h : f_L_law_b581 G.2.2.2.2.1 G.2.2.2.2.2 k23 x1 x2 x3 x4 σ = some r) : hb_T G l true mL_law 83 (3 * n) (18 * n) 581 [(0, .retAddr 0), (1, .ref x1), (2, .ref x2), (3, .ref x3), (4, .int x4)] [] σ (.inl (some (.int r.1)), r.2) := by
  unfold f_L_law_b581 at h
  refine hs_goto (tgt := 2704) dL_law_581 (by decide) ?_
  refine hs_sub (lv' := [(0, .retAddr 0), (1, .ref x1), (2, .ref x2), (3, .ref x3), (4, .int x4)]) [0, 1, 2, 3, 4] rfl ?_
  refine hs_weak (rc' := (3 * n)) (rs' := (18 * n)) (by omega) (by omega) ?_
  exact c_L_law_b2704 hl k23 hk23 h
set_option maxHeartbeats 4000000 in
set_option maxRecDepth 20000 in
theorem c_L_law_b528 {G : hb_G} {l : Launch} (hl : l.stackTraces = false) {n : Nat}  (k23 : Nat → Nat → Nat → Int32 → hb_M → Option (Int32 × hb_M)) (hk23 : ∀ (x1 : Nat) (x2 : Nat) (x3 : Nat) (x4 : Int32) (σ : hb_M) (r : (Int32 × hb_M)), k23 x1 x2 x3 x4 σ = some r → hb_T G l true mL_law 83 (3 * n) (18 * n) 23 [(0, .retAddr 0), (1, .ref x1), (2, .ref x2), (3, .ref x3), (4, .int x4)] [] σ (.inl (some (.int r.1)), r.2))  {x1 : Nat} {x2 : Nat} {x3 : Nat} {x4 : Int32} {σ : hb_M} {r : (Int32 × hb_M)} (h : f_L_law_b528 G.2.2.2.2.1 G.2.2.2.2.2 k23 x1 x2 x3 x4 σ = some r) : hb_T G l true mL_law 83 (3 * n + 3) (18 * n + 18) 528 [(0, .retAddr 0), (1, .ref x1), (2, .ref x2), (3, .ref x3), (4, .int x4)] [] σ (.inl (some (.int r.1)), r.2) := by
  unfold f_L_law_b528 at h
  refine hs_aload_n dL_law_528 1 rfl ?_
  refine hs_sload_n dL_law_529 0 rfl ?_
  refine hs_iload dL_law_530 4 rfl ?_
  refine hs_iconst (v := (1 : Int32)) dL_law_532 (by decide) ?_
  refine hs_iadd dL_law_533 ?_
  obtain ⟨r1, h1, h⟩ := hb_bind h
  refine hs_iald dL_law_534 h1 ?_
  refine hs_aload_n dL_law_535 3 rfl ?_
  refine hs_weak (rc' := 1 + 3 * n) (rs' := 6 + 18 * n) (by omega) (by omega) ?_
  obtain ⟨r2, h2, h⟩ := hb_bind h
  refine hs_callSXi (μ' := mL_newArray) (mc := 1) (ms := 6) (rc := (3 * n)) (rs := (18 * n)) (As := [.ref x1, .int r1, .ref x3]) (rest := []) dL_law_536 lmL_158 okL_newArray rfl (by decide) rfl (Nat.le_of_ble_eq_true rfl) (c_L_newArray hl h2) ?_
  refine hs_istore (lv' := [(5, .int r2.1), (0, .retAddr 0), (1, .ref x1), (2, .ref x2), (3, .ref x3), (4, .int x4)]) dL_law_539 (by decide) rfl ?_
  refine hs_aload_n dL_law_541 3 rfl ?_
  refine hs_sload_n dL_law_542 1 rfl ?_
  refine hs_iload dL_law_543 5 rfl ?_
  refine hs_iconst (v := (1 : Int32)) dL_law_545 (by decide) ?_
  refine hs_iadd dL_law_546 ?_
  obtain ⟨r3, h3, h⟩ := hb_bind h
  refine hs_iald dL_law_547 h3 ?_
  refine hs_weak (rc' := 0 + 3 * n) (rs' := 0 + 18 * n) (by omega) (by omega) ?_
  obtain ⟨r4, h4, h⟩ := hb_bind h
  obtain ⟨h4, nf4, hb4⟩ := hb_on_at h4
  refine hs_callVi (μ' := mX9_newArray) (mc := 0) (ms := 0) (rc := (3 * n)) (rs := (18 * n)) (As := [.int r3]) (rest := []) (ci := 9) dL_law_548 lmL_160 okX9_newArray rfl (by decide) rfl (Nat.le_of_ble_eq_true rfl) rfl hb4 (c_X9_newArray h4) ?_
  refine hs_istore (lv' := [(6, .int r4.1), (5, .int r2.1), (0, .retAddr 0), (1, .ref x1), (2, .ref x2), (3, .ref x3), (4, .int x4)]) dL_law_551 (by decide) rfl ?_
  refine hs_aload_n dL_law_553 4 rfl ?_
  refine hs_weak (rc' := 0 + 3 * n) (rs' := 0 + 18 * n) (by omega) (by omega) ?_
  obtain ⟨r5, h5, h⟩ := hb_bind h
  obtain ⟨h5, nf5, hb5⟩ := hb_on_at h5
  refine hs_callVi (μ' := mX9_thrown) (mc := 0) (ms := 0) (rc := (3 * n)) (rs := (18 * n)) (As := []) (rest := []) (ci := 9) dL_law_554 lmL_140 okX9_thrown rfl (by decide) rfl (Nat.le_of_ble_eq_true rfl) rfl hb5 (c_X9_thrown h5) ?_
  refine hs_iload dL_law_557 1 rfl ?_
  refine hs_icmp_eq (tgt := 564) dL_law_559 (by decide) (fun hc6 => ?_) (fun hc6 => ?_)
  · rw [if_pos hc6] at h
    refine hs_iload dL_law_564 1 rfl ?_
    refine hs_if_ne (tgt := 581) dL_law_566 (by decide) (fun hc7 => ?_) (fun hc7 => ?_)
    · rw [if_neg hc7] at h
      refine hs_sub (lv' := [(0, .retAddr 0), (1, .ref x1), (2, .ref x2), (3, .ref x3), (4, .int x4)]) [2, 3, 4, 5, 6] rfl ?_
      refine hs_weak (rc' := (3 * n)) (rs' := (18 * n)) (by omega) (by omega) ?_
      exact c_L_law_b581 hl k23 hk23 h
    · rw [if_pos hc7] at h
      refine hs_aload_n dL_law_569 5 rfl ?_
      refine hs_iconst (v := (0 : Int32)) dL_law_570 (by decide) ?_
      obtain ⟨r8, h8, h⟩ := hb_bind h
      refine hs_lald dL_law_571 h8 ?_
      refine hs_iload dL_law_572 0 rfl ?_
      refine hs_i2l dL_law_574 ?_
      refine hs_lcmp dL_law_575 ?_
      refine hs_if_eq (tgt := 581) dL_law_576 (by decide) (fun hc9 => ?_) (fun hc9 => ?_)
      · rw [if_pos hc9] at h
        refine hs_sub (lv' := [(0, .retAddr 0), (1, .ref x1), (2, .ref x2), (3, .ref x3), (4, .int x4)]) [2, 3, 4, 5, 6] rfl ?_
        refine hs_weak (rc' := (3 * n)) (rs' := (18 * n)) (by omega) (by omega) ?_
        exact c_L_law_b581 hl k23 hk23 h
      · rw [if_neg hc9] at h
        refine hs_iconst (v := (0 : Int32)) dL_law_579 (by decide) ?_
        obtain rfl := Option.some.inj h
        exact hs_ireturn dL_law_580 rfl (by decide) (fun h => by cases h)
  · rw [if_neg hc6] at h
    refine hs_iconst (v := (0 : Int32)) dL_law_562 (by decide) ?_
    obtain rfl := Option.some.inj h
    exact hs_ireturn dL_law_563 rfl (by decide) (fun h => by cases h)
set_option maxHeartbeats 4000000 in
set_option maxRecDepth 20000 in
theorem c_L_law_b525 {G : hb_G} {l : Launch} (hl : l.stackTraces = false) {n : Nat}  (k23 : Nat → Nat → Nat → Int32 → hb_M → Option (Int32 × hb_M)) (hk23 : ∀ (x1 : Nat) (x2 : Nat) (x3 : Nat) (x4 : Int32) (σ : hb_M) (r : (Int32 × hb_M)), k23 x1 x2 x3 x4 σ = some r → hb_T G l true mL_law 83 (3 * n) (18 * n) 23 [(0, .retAddr 0), (1, .ref x1), (2, .ref x2), (3, .ref x3), (4, .int x4)] [] σ (.inl (some (.int r.1)), r.2))  {x1 : Nat} {x2 : Nat} {x3 : Nat} {x4 : Int32} {σ : hb_M} {r : (Int32 × hb_M)} (h : f_L_law_b525 G.2.2.2.2.1 G.2.2.2.2.2 k23 x1 x2 x3 x4 σ = some r) : hb_T G l true mL_law 83 (3 * n) (18 * n) 525 [(0, .retAddr 0), (1, .ref x1), (2, .ref x2), (3, .ref x3), (4, .int x4)] [] σ (.inl (some (.int r.1)), r.2) := by
  unfold f_L_law_b525 at h
  refine hs_goto (tgt := 2704) dL_law_525 (by decide) ?_
  refine hs_sub (lv' := [(0, .retAddr 0), (1, .ref x1), (2, .ref x2), (3, .ref x3), (4, .int x4)]) [0, 1, 2, 3, 4] rfl ?_
  refine hs_weak (rc' := (3 * n)) (rs' := (18 * n)) (by omega) (by omega) ?_
  exact c_L_law_b2704 hl k23 hk23 h
set_option maxHeartbeats 4000000 in
set_option maxRecDepth 20000 in
theorem c_L_law_b472 {G : hb_G} {l : Launch} (hl : l.stackTraces = false) {n : Nat}  (k23 : Nat → Nat → Nat → Int32 → hb_M → Option (Int32 × hb_M)) (hk23 : ∀ (x1 : Nat) (x2 : Nat) (x3 : Nat) (x4 : Int32) (σ : hb_M) (r : (Int32 × hb_M)), k23 x1 x2 x3 x4 σ = some r → hb_T G l true mL_law 83 (3 * n) (18 * n) 23 [(0, .retAddr 0), (1, .ref x1), (2, .ref x2), (3, .ref x3), (4, .int x4)] [] σ (.inl (some (.int r.1)), r.2))  {x1 : Nat} {x2 : Nat} {x3 : Nat} {x4 : Int32} {σ : hb_M} {r : (Int32 × hb_M)} (h : f_L_law_b472 G.2.2.2.2.1 G.2.2.2.2.2 k23 x1 x2 x3 x4 σ = some r) : hb_T G l true mL_law 83 (3 * n + 3) (18 * n + 18) 472 [(0, .retAddr 0), (1, .ref x1), (2, .ref x2), (3, .ref x3), (4, .int x4)] [] σ (.inl (some (.int r.1)), r.2) := by
  unfold f_L_law_b472 at h
  refine hs_aload_n dL_law_472 1 rfl ?_
  refine hs_sload_n dL_law_473 0 rfl ?_
  refine hs_iload dL_law_474 4 rfl ?_
  refine hs_iconst (v := (1 : Int32)) dL_law_476 (by decide) ?_
  refine hs_iadd dL_law_477 ?_
  obtain ⟨r1, h1, h⟩ := hb_bind h
  refine hs_iald dL_law_478 h1 ?_
  refine hs_aload_n dL_law_479 3 rfl ?_
  refine hs_weak (rc' := 1 + 3 * n) (rs' := 6 + 18 * n) (by omega) (by omega) ?_
  obtain ⟨r2, h2, h⟩ := hb_bind h
  refine hs_callSXi (μ' := mL_newInstance) (mc := 1) (ms := 6) (rc := (3 * n)) (rs := (18 * n)) (As := [.ref x1, .int r1, .ref x3]) (rest := []) dL_law_480 lmL_154 okL_newInstance rfl (by decide) rfl (Nat.le_of_ble_eq_true rfl) (c_L_newInstance hl h2) ?_
  refine hs_istore (lv' := [(5, .int r2.1), (0, .retAddr 0), (1, .ref x1), (2, .ref x2), (3, .ref x3), (4, .int x4)]) dL_law_483 (by decide) rfl ?_
  refine hs_aload_n dL_law_485 3 rfl ?_
  refine hs_sload_n dL_law_486 1 rfl ?_
  refine hs_iload dL_law_487 5 rfl ?_
  refine hs_iconst (v := (1 : Int32)) dL_law_489 (by decide) ?_
  refine hs_iadd dL_law_490 ?_
  obtain ⟨r3, h3, h⟩ := hb_bind h
  refine hs_iald dL_law_491 h3 ?_
  refine hs_weak (rc' := 0 + 3 * n) (rs' := 0 + 18 * n) (by omega) (by omega) ?_
  obtain ⟨r4, h4, h⟩ := hb_bind h
  obtain ⟨h4, nf4, hb4⟩ := hb_on_at h4
  refine hs_callVi (μ' := mX9_newInstance) (mc := 0) (ms := 0) (rc := (3 * n)) (rs := (18 * n)) (As := [.int r3]) (rest := []) (ci := 9) dL_law_492 lmL_157 okX9_newInstance rfl (by decide) rfl (Nat.le_of_ble_eq_true rfl) rfl hb4 (c_X9_newInstance h4) ?_
  refine hs_istore (lv' := [(6, .int r4.1), (5, .int r2.1), (0, .retAddr 0), (1, .ref x1), (2, .ref x2), (3, .ref x3), (4, .int x4)]) dL_law_495 (by decide) rfl ?_
  refine hs_aload_n dL_law_497 4 rfl ?_
  refine hs_weak (rc' := 0 + 3 * n) (rs' := 0 + 18 * n) (by omega) (by omega) ?_
  obtain ⟨r5, h5, h⟩ := hb_bind h
  obtain ⟨h5, nf5, hb5⟩ := hb_on_at h5
  refine hs_callVi (μ' := mX9_thrown) (mc := 0) (ms := 0) (rc := (3 * n)) (rs := (18 * n)) (As := []) (rest := []) (ci := 9) dL_law_498 lmL_140 okX9_thrown rfl (by decide) rfl (Nat.le_of_ble_eq_true rfl) rfl hb5 (c_X9_thrown h5) ?_
  refine hs_iload dL_law_501 1 rfl ?_
  refine hs_icmp_eq (tgt := 508) dL_law_503 (by decide) (fun hc6 => ?_) (fun hc6 => ?_)
  · rw [if_pos hc6] at h
    refine hs_iload dL_law_508 1 rfl ?_
    refine hs_if_ne (tgt := 525) dL_law_510 (by decide) (fun hc7 => ?_) (fun hc7 => ?_)
    · rw [if_neg hc7] at h
      refine hs_sub (lv' := [(0, .retAddr 0), (1, .ref x1), (2, .ref x2), (3, .ref x3), (4, .int x4)]) [2, 3, 4, 5, 6] rfl ?_
      refine hs_weak (rc' := (3 * n)) (rs' := (18 * n)) (by omega) (by omega) ?_
      exact c_L_law_b525 hl k23 hk23 h
    · rw [if_pos hc7] at h
      refine hs_aload_n dL_law_513 5 rfl ?_
      refine hs_iconst (v := (0 : Int32)) dL_law_514 (by decide) ?_
      obtain ⟨r8, h8, h⟩ := hb_bind h
      refine hs_lald dL_law_515 h8 ?_
      refine hs_iload dL_law_516 0 rfl ?_
      refine hs_i2l dL_law_518 ?_
      refine hs_lcmp dL_law_519 ?_
      refine hs_if_eq (tgt := 525) dL_law_520 (by decide) (fun hc9 => ?_) (fun hc9 => ?_)
      · rw [if_pos hc9] at h
        refine hs_sub (lv' := [(0, .retAddr 0), (1, .ref x1), (2, .ref x2), (3, .ref x3), (4, .int x4)]) [2, 3, 4, 5, 6] rfl ?_
        refine hs_weak (rc' := (3 * n)) (rs' := (18 * n)) (by omega) (by omega) ?_
        exact c_L_law_b525 hl k23 hk23 h
      · rw [if_neg hc9] at h
        refine hs_iconst (v := (0 : Int32)) dL_law_523 (by decide) ?_
        obtain rfl := Option.some.inj h
        exact hs_ireturn dL_law_524 rfl (by decide) (fun h => by cases h)
  · rw [if_neg hc6] at h
    refine hs_iconst (v := (0 : Int32)) dL_law_506 (by decide) ?_
    obtain rfl := Option.some.inj h
    exact hs_ireturn dL_law_507 rfl (by decide) (fun h => by cases h)
set_option maxHeartbeats 4000000 in
set_option maxRecDepth 20000 in
theorem c_L_law_b469 {G : hb_G} {l : Launch} (hl : l.stackTraces = false) {n : Nat}  (k23 : Nat → Nat → Nat → Int32 → hb_M → Option (Int32 × hb_M)) (hk23 : ∀ (x1 : Nat) (x2 : Nat) (x3 : Nat) (x4 : Int32) (σ : hb_M) (r : (Int32 × hb_M)), k23 x1 x2 x3 x4 σ = some r → hb_T G l true mL_law 83 (3 * n) (18 * n) 23 [(0, .retAddr 0), (1, .ref x1), (2, .ref x2), (3, .ref x3), (4, .int x4)] [] σ (.inl (some (.int r.1)), r.2))  {x1 : Nat} {x2 : Nat} {x3 : Nat} {x4 : Int32} {σ : hb_M} {r : (Int32 × hb_M)} (h : f_L_law_b469 G.2.2.2.2.1 G.2.2.2.2.2 k23 x1 x2 x3 x4 σ = some r) : hb_T G l true mL_law 83 (3 * n) (18 * n) 469 [(0, .retAddr 0), (1, .ref x1), (2, .ref x2), (3, .ref x3), (4, .int x4)] [] σ (.inl (some (.int r.1)), r.2) := by
  unfold f_L_law_b469 at h
  refine hs_goto (tgt := 2704) dL_law_469 (by decide) ?_
  refine hs_sub (lv' := [(0, .retAddr 0), (1, .ref x1), (2, .ref x2), (3, .ref x3), (4, .int x4)]) [0, 1, 2, 3, 4] rfl ?_
  refine hs_weak (rc' := (3 * n)) (rs' := (18 * n)) (by omega) (by omega) ?_
  exact c_L_law_b2704 hl k23 hk23 h
set_option maxHeartbeats 4000000 in
set_option maxRecDepth 20000 in
theorem c_L_law_b463 {G : hb_G} {l : Launch} (hl : l.stackTraces = false) {n : Nat}  (k23 : Nat → Nat → Nat → Int32 → hb_M → Option (Int32 × hb_M)) (hk23 : ∀ (x1 : Nat) (x2 : Nat) (x3 : Nat) (x4 : Int32) (σ : hb_M) (r : (Int32 × hb_M)), k23 x1 x2 x3 x4 σ = some r → hb_T G l true mL_law 83 (3 * n) (18 * n) 23 [(0, .retAddr 0), (1, .ref x1), (2, .ref x2), (3, .ref x3), (4, .int x4)] [] σ (.inl (some (.int r.1)), r.2))  {x1 : Nat} {x2 : Nat} {x3 : Nat} {x4 : Int32} {s0 : Int64} {s1 : Int64} {σ : hb_M} {r : (Int32 × hb_M)} (h : f_L_law_b463 G.2.2.2.2.1 G.2.2.2.2.2 k23 x1 x2 x3 x4 s0 s1 σ = some r) : hb_T G l true mL_law 83 (3 * n) (18 * n) 463 [(0, .retAddr 0), (1, .ref x1), (2, .ref x2), (3, .ref x3), (4, .int x4)] [.long s1, .long s0] σ (.inl (some (.int r.1)), r.2) := by
  unfold f_L_law_b463 at h
  refine hs_lcmp dL_law_463 ?_
  refine hs_if_eq (tgt := 469) dL_law_464 (by decide) (fun hc1 => ?_) (fun hc1 => ?_)
  · rw [if_pos hc1] at h
    refine hs_sub (lv' := [(0, .retAddr 0), (1, .ref x1), (2, .ref x2), (3, .ref x3), (4, .int x4)]) [0, 1, 2, 3, 4] rfl ?_
    refine hs_weak (rc' := (3 * n)) (rs' := (18 * n)) (by omega) (by omega) ?_
    exact c_L_law_b469 hl k23 hk23 h
  · rw [if_neg hc1] at h
    refine hs_iconst (v := (0 : Int32)) dL_law_467 (by decide) ?_
    obtain rfl := Option.some.inj h
    exact hs_ireturn dL_law_468 rfl (by decide) (fun h => by cases h)
set_option maxHeartbeats 4000000 in
set_option maxRecDepth 20000 in
theorem c_L_law_b397 {G : hb_G} {l : Launch} (hl : l.stackTraces = false) {n : Nat}  (k23 : Nat → Nat → Nat → Int32 → hb_M → Option (Int32 × hb_M)) (hk23 : ∀ (x1 : Nat) (x2 : Nat) (x3 : Nat) (x4 : Int32) (σ : hb_M) (r : (Int32 × hb_M)), k23 x1 x2 x3 x4 σ = some r → hb_T G l true mL_law 83 (3 * n) (18 * n) 23 [(0, .retAddr 0), (1, .ref x1), (2, .ref x2), (3, .ref x3), (4, .int x4)] [] σ (.inl (some (.int r.1)), r.2))  {x1 : Nat} {x2 : Nat} {x3 : Nat} {x4 : Int32} {σ : hb_M} {r : (Int32 × hb_M)} (h : f_L_law_b397 G.2.2.2.2.1 G.2.2.2.2.2 k23 x1 x2 x3 x4 σ = some r) : hb_T G l true mL_law 83 (3 * n + 3) (18 * n + 18) 397 [(0, .retAddr 0), (1, .ref x1), (2, .ref x2), (3, .ref x3), (4, .int x4)] [] σ (.inl (some (.int r.1)), r.2) := by
  unfold f_L_law_b397 at h
  refine hs_aload_n dL_law_397 1 rfl ?_
  refine hs_sload_n dL_law_398 0 rfl ?_
  refine hs_iload dL_law_399 4 rfl ?_
  refine hs_iconst (v := (1 : Int32)) dL_law_401 (by decide) ?_
  refine hs_iadd dL_law_402 ?_
  obtain ⟨r1, h1, h⟩ := hb_bind h
  refine hs_iald dL_law_403 h1 ?_
  refine hs_sload_n dL_law_404 0 rfl ?_
  refine hs_iload dL_law_405 4 rfl ?_
  refine hs_iconst (v := (2 : Int32)) dL_law_407 (by decide) ?_
  refine hs_iadd dL_law_408 ?_
  obtain ⟨r2, h2, h⟩ := hb_bind h
  refine hs_iald dL_law_409 h2 ?_
  refine hs_aload_n dL_law_410 3 rfl ?_
  refine hs_weak (rc' := 1 + 3 * n) (rs' := 6 + 18 * n) (by omega) (by omega) ?_
  obtain ⟨r3, h3, h⟩ := hb_bind h
  refine hs_callSXi (μ' := mL_isSubclass) (mc := 1) (ms := 6) (rc := (3 * n)) (rs := (18 * n)) (As := [.ref x1, .int r1, .int r2, .ref x3]) (rest := []) dL_law_411 lmL_151 okL_isSubclass rfl (by decide) rfl (Nat.le_of_ble_eq_true rfl) (c_L_isSubclass hl h3) ?_
  refine hs_istore (lv' := [(5, .int r3.1), (0, .retAddr 0), (1, .ref x1), (2, .ref x2), (3, .ref x3), (4, .int x4)]) dL_law_414 (by decide) rfl ?_
  refine hs_aload_n dL_law_416 3 rfl ?_
  refine hs_sload_n dL_law_417 1 rfl ?_
  refine hs_iload dL_law_418 5 rfl ?_
  refine hs_iconst (v := (1 : Int32)) dL_law_420 (by decide) ?_
  refine hs_iadd dL_law_421 ?_
  obtain ⟨r4, h4, h⟩ := hb_bind h
  refine hs_iald dL_law_422 h4 ?_
  refine hs_sload_n dL_law_423 1 rfl ?_
  refine hs_iload dL_law_424 5 rfl ?_
  refine hs_iconst (v := (2 : Int32)) dL_law_426 (by decide) ?_
  refine hs_iadd dL_law_427 ?_
  obtain ⟨r5, h5, h⟩ := hb_bind h
  refine hs_iald dL_law_428 h5 ?_
  refine hs_weak (rc' := 0 + 3 * n) (rs' := 0 + 18 * n) (by omega) (by omega) ?_
  obtain ⟨r6, h6, h⟩ := hb_bind h
  obtain ⟨h6, nf6, hb6⟩ := hb_on_at h6
  refine hs_callVi (μ' := mX9_isSubclass) (mc := 0) (ms := 0) (rc := (3 * n)) (rs := (18 * n)) (As := [.int r4, .int r5]) (rest := []) (ci := 9) dL_law_429 lmL_153 okX9_isSubclass rfl (by decide) rfl (Nat.le_of_ble_eq_true rfl) rfl hb6 (c_X9_isSubclass h6) ?_
  refine hs_istore (lv' := [(6, .int r6.1), (5, .int r3.1), (0, .retAddr 0), (1, .ref x1), (2, .ref x2), (3, .ref x3), (4, .int x4)]) dL_law_432 (by decide) rfl ?_
  refine hs_aload_n dL_law_434 4 rfl ?_
  refine hs_weak (rc' := 0 + 3 * n) (rs' := 0 + 18 * n) (by omega) (by omega) ?_
  obtain ⟨r7, h7, h⟩ := hb_bind h
  obtain ⟨h7, nf7, hb7⟩ := hb_on_at h7
  refine hs_callVi (μ' := mX9_thrown) (mc := 0) (ms := 0) (rc := (3 * n)) (rs := (18 * n)) (As := []) (rest := []) (ci := 9) dL_law_435 lmL_140 okX9_thrown rfl (by decide) rfl (Nat.le_of_ble_eq_true rfl) rfl hb7 (c_X9_thrown h7) ?_
  refine hs_iload dL_law_438 1 rfl ?_
  refine hs_icmp_eq (tgt := 445) dL_law_440 (by decide) (fun hc8 => ?_) (fun hc8 => ?_)
  · rw [if_pos hc8] at h
    refine hs_iload dL_law_445 1 rfl ?_
    refine hs_if_ne (tgt := 469) dL_law_447 (by decide) (fun hc9 => ?_) (fun hc9 => ?_)
    · rw [if_neg hc9] at h
      refine hs_sub (lv' := [(0, .retAddr 0), (1, .ref x1), (2, .ref x2), (3, .ref x3), (4, .int x4)]) [2, 3, 4, 5, 6] rfl ?_
      refine hs_weak (rc' := (3 * n)) (rs' := (18 * n)) (by omega) (by omega) ?_
      exact c_L_law_b469 hl k23 hk23 h
    · rw [if_pos hc9] at h
      refine hs_aload_n dL_law_450 5 rfl ?_
      refine hs_iconst (v := (0 : Int32)) dL_law_451 (by decide) ?_
      obtain ⟨r10, h10, h⟩ := hb_bind h
      refine hs_lald dL_law_452 h10 ?_
      refine hs_iload dL_law_453 0 rfl ?_
      refine hs_if_eq (tgt := 462) dL_law_455 (by decide) (fun hc11 => ?_) (fun hc11 => ?_)
      · rw [if_pos hc11] at h
        refine hs_lconst (v := (0 : Int64)) dL_law_462 (by decide) ?_
        refine hs_sub (lv' := [(0, .retAddr 0), (1, .ref x1), (2, .ref x2), (3, .ref x3), (4, .int x4)]) [2, 3, 4, 5, 6] rfl ?_
        refine hs_weak (rc' := (3 * n)) (rs' := (18 * n)) (by omega) (by omega) ?_
        exact c_L_law_b463 hl k23 hk23 h
      · rw [if_neg hc11] at h
        refine hs_lconst (v := (1 : Int64)) dL_law_458 (by decide) ?_
        refine hs_goto (tgt := 463) dL_law_459 (by decide) ?_
        refine hs_sub (lv' := [(0, .retAddr 0), (1, .ref x1), (2, .ref x2), (3, .ref x3), (4, .int x4)]) [2, 3, 4, 5, 6] rfl ?_
        refine hs_weak (rc' := (3 * n)) (rs' := (18 * n)) (by omega) (by omega) ?_
        exact c_L_law_b463 hl k23 hk23 h
  · rw [if_neg hc8] at h
    refine hs_iconst (v := (0 : Int32)) dL_law_443 (by decide) ?_
    obtain rfl := Option.some.inj h
    exact hs_ireturn dL_law_444 rfl (by decide) (fun h => by cases h)
set_option maxHeartbeats 4000000 in
set_option maxRecDepth 20000 in
theorem c_L_law_b394 {G : hb_G} {l : Launch} (hl : l.stackTraces = false) {n : Nat}  (k23 : Nat → Nat → Nat → Int32 → hb_M → Option (Int32 × hb_M)) (hk23 : ∀ (x1 : Nat) (x2 : Nat) (x3 : Nat) (x4 : Int32) (σ : hb_M) (r : (Int32 × hb_M)), k23 x1 x2 x3 x4 σ = some r → hb_T G l true mL_law 83 (3 * n) (18 * n) 23 [(0, .retAddr 0), (1, .ref x1), (2, .ref x2), (3, .ref x3), (4, .int x4)] [] σ (.inl (some (.int r.1)), r.2))  {x1 : Nat} {x2 : Nat} {x3 : Nat} {x4 : Int32} {σ : hb_M} {r : (Int32 × hb_M)} (h : f_L_law_b394 G.2.2.2.2.1 G.2.2.2.2.2 k23 x1 x2 x3 x4 σ = some r) : hb_T G l true mL_law 83 (3 * n) (18 * n) 394 [(0, .retAddr 0), (1, .ref x1), (2, .ref x2), (3, .ref x3), (4, .int x4)] [] σ (.inl (some (.int r.1)), r.2) := by
  unfold f_L_law_b394 at h
  refine hs_goto (tgt := 2704) dL_law_394 (by decide) ?_
  refine hs_sub (lv' := [(0, .retAddr 0), (1, .ref x1), (2, .ref x2), (3, .ref x3), (4, .int x4)]) [0, 1, 2, 3, 4] rfl ?_
  refine hs_weak (rc' := (3 * n)) (rs' := (18 * n)) (by omega) (by omega) ?_
  exact c_L_law_b2704 hl k23 hk23 h
set_option maxHeartbeats 4000000 in
set_option maxRecDepth 20000 in
theorem c_L_law_b329 {G : hb_G} {l : Launch} (hl : l.stackTraces = false) {n : Nat}  (k23 : Nat → Nat → Nat → Int32 → hb_M → Option (Int32 × hb_M)) (hk23 : ∀ (x1 : Nat) (x2 : Nat) (x3 : Nat) (x4 : Int32) (σ : hb_M) (r : (Int32 × hb_M)), k23 x1 x2 x3 x4 σ = some r → hb_T G l true mL_law 83 (3 * n) (18 * n) 23 [(0, .retAddr 0), (1, .ref x1), (2, .ref x2), (3, .ref x3), (4, .int x4)] [] σ (.inl (some (.int r.1)), r.2))  {x1 : Nat} {x2 : Nat} {x3 : Nat} {x4 : Int32} {σ : hb_M} {r : (Int32 × hb_M)} (h : f_L_law_b329 G.2.2.2.2.1 G.2.2.2.2.2 k23 x1 x2 x3 x4 σ = some r) : hb_T G l true mL_law 83 (3 * n + 3) (18 * n + 18) 329 [(0, .retAddr 0), (1, .ref x1), (2, .ref x2), (3, .ref x3), (4, .int x4)] [] σ (.inl (some (.int r.1)), r.2) := by
  unfold f_L_law_b329 at h
  refine hs_aload_n dL_law_329 1 rfl ?_
  refine hs_sload_n dL_law_330 0 rfl ?_
  refine hs_iload dL_law_331 4 rfl ?_
  refine hs_iconst (v := (1 : Int32)) dL_law_333 (by decide) ?_
  refine hs_iadd dL_law_334 ?_
  obtain ⟨r1, h1, h⟩ := hb_bind h
  refine hs_iald dL_law_335 h1 ?_
  refine hs_sload_n dL_law_336 0 rfl ?_
  refine hs_iload dL_law_337 4 rfl ?_
  refine hs_iconst (v := (2 : Int32)) dL_law_339 (by decide) ?_
  refine hs_iadd dL_law_340 ?_
  obtain ⟨r2, h2, h⟩ := hb_bind h
  refine hs_iald dL_law_341 h2 ?_
  refine hs_aload_n dL_law_342 3 rfl ?_
  refine hs_weak (rc' := 1 + 3 * n) (rs' := 6 + 18 * n) (by omega) (by omega) ?_
  obtain ⟨r3, h3, h⟩ := hb_bind h
  refine hs_callSXi (μ' := mL_classInfo) (mc := 1) (ms := 6) (rc := (3 * n)) (rs := (18 * n)) (As := [.ref x1, .int r1, .int r2, .ref x3]) (rest := []) dL_law_343 lmL_147 okL_classInfo rfl (by decide) rfl (Nat.le_of_ble_eq_true rfl) (c_L_classInfo hl h3) ?_
  refine hs_istore (lv' := [(5, .int r3.1), (0, .retAddr 0), (1, .ref x1), (2, .ref x2), (3, .ref x3), (4, .int x4)]) dL_law_346 (by decide) rfl ?_
  refine hs_aload_n dL_law_348 3 rfl ?_
  refine hs_sload_n dL_law_349 1 rfl ?_
  refine hs_iload dL_law_350 5 rfl ?_
  refine hs_iconst (v := (1 : Int32)) dL_law_352 (by decide) ?_
  refine hs_iadd dL_law_353 ?_
  obtain ⟨r4, h4, h⟩ := hb_bind h
  refine hs_iald dL_law_354 h4 ?_
  refine hs_sload_n dL_law_355 1 rfl ?_
  refine hs_iload dL_law_356 5 rfl ?_
  refine hs_iconst (v := (2 : Int32)) dL_law_358 (by decide) ?_
  refine hs_iadd dL_law_359 ?_
  obtain ⟨r5, h5, h⟩ := hb_bind h
  refine hs_iald dL_law_360 h5 ?_
  refine hs_weak (rc' := 0 + 3 * n) (rs' := 0 + 18 * n) (by omega) (by omega) ?_
  obtain ⟨r6, h6, h⟩ := hb_bind h
  obtain ⟨h6, nf6, hb6⟩ := hb_on_at h6
  refine hs_callVi (μ' := mX9_classInfo) (mc := 0) (ms := 0) (rc := (3 * n)) (rs := (18 * n)) (As := [.int r4, .int r5]) (rest := []) (ci := 9) dL_law_361 lmL_150 okX9_classInfo rfl (by decide) rfl (Nat.le_of_ble_eq_true rfl) rfl hb6 (c_X9_classInfo h6) ?_
  refine hs_istore (lv' := [(6, .int r6.1), (5, .int r3.1), (0, .retAddr 0), (1, .ref x1), (2, .ref x2), (3, .ref x3), (4, .int x4)]) dL_law_364 (by decide) rfl ?_
  refine hs_aload_n dL_law_366 4 rfl ?_
  refine hs_weak (rc' := 0 + 3 * n) (rs' := 0 + 18 * n) (by omega) (by omega) ?_
  obtain ⟨r7, h7, h⟩ := hb_bind h
  obtain ⟨h7, nf7, hb7⟩ := hb_on_at h7
  refine hs_callVi (μ' := mX9_thrown) (mc := 0) (ms := 0) (rc := (3 * n)) (rs := (18 * n)) (As := []) (rest := []) (ci := 9) dL_law_367 lmL_140 okX9_thrown rfl (by decide) rfl (Nat.le_of_ble_eq_true rfl) rfl hb7 (c_X9_thrown h7) ?_
  refine hs_iload dL_law_370 1 rfl ?_
  refine hs_icmp_eq (tgt := 377) dL_law_372 (by decide) (fun hc8 => ?_) (fun hc8 => ?_)
  · rw [if_pos hc8] at h
    refine hs_iload dL_law_377 1 rfl ?_
    refine hs_if_ne (tgt := 394) dL_law_379 (by decide) (fun hc9 => ?_) (fun hc9 => ?_)
    · rw [if_neg hc9] at h
      refine hs_sub (lv' := [(0, .retAddr 0), (1, .ref x1), (2, .ref x2), (3, .ref x3), (4, .int x4)]) [2, 3, 4, 5, 6] rfl ?_
      refine hs_weak (rc' := (3 * n)) (rs' := (18 * n)) (by omega) (by omega) ?_
      exact c_L_law_b394 hl k23 hk23 h
    · rw [if_pos hc9] at h
      refine hs_aload_n dL_law_382 5 rfl ?_
      refine hs_iconst (v := (0 : Int32)) dL_law_383 (by decide) ?_
      obtain ⟨r10, h10, h⟩ := hb_bind h
      refine hs_lald dL_law_384 h10 ?_
      refine hs_iload dL_law_385 0 rfl ?_
      refine hs_i2l dL_law_387 ?_
      refine hs_lcmp dL_law_388 ?_
      refine hs_if_eq (tgt := 394) dL_law_389 (by decide) (fun hc11 => ?_) (fun hc11 => ?_)
      · rw [if_pos hc11] at h
        refine hs_sub (lv' := [(0, .retAddr 0), (1, .ref x1), (2, .ref x2), (3, .ref x3), (4, .int x4)]) [2, 3, 4, 5, 6] rfl ?_
        refine hs_weak (rc' := (3 * n)) (rs' := (18 * n)) (by omega) (by omega) ?_
        exact c_L_law_b394 hl k23 hk23 h
      · rw [if_neg hc11] at h
        refine hs_iconst (v := (0 : Int32)) dL_law_392 (by decide) ?_
        obtain rfl := Option.some.inj h
        exact hs_ireturn dL_law_393 rfl (by decide) (fun h => by cases h)
  · rw [if_neg hc8] at h
    refine hs_iconst (v := (0 : Int32)) dL_law_375 (by decide) ?_
    obtain rfl := Option.some.inj h
    exact hs_ireturn dL_law_376 rfl (by decide) (fun h => by cases h)
set_option maxHeartbeats 4000000 in
set_option maxRecDepth 20000 in
theorem c_L_law_b316 {G : hb_G} {l : Launch} (hl : l.stackTraces = false) {n : Nat}  (k23 : Nat → Nat → Nat → Int32 → hb_M → Option (Int32 × hb_M)) (hk23 : ∀ (x1 : Nat) (x2 : Nat) (x3 : Nat) (x4 : Int32) (σ : hb_M) (r : (Int32 × hb_M)), k23 x1 x2 x3 x4 σ = some r → hb_T G l true mL_law 83 (3 * n) (18 * n) 23 [(0, .retAddr 0), (1, .ref x1), (2, .ref x2), (3, .ref x3), (4, .int x4)] [] σ (.inl (some (.int r.1)), r.2))  {x1 : Nat} {x2 : Nat} {x3 : Nat} {x4 : Int32} {σ : hb_M} {r : (Int32 × hb_M)} (h : f_L_law_b316 G.2.2.2.2.1 G.2.2.2.2.2 k23 x1 x2 x3 x4 σ = some r) : hb_T G l true mL_law 83 (3 * n + 3) (18 * n + 18) 316 [(0, .retAddr 0), (1, .ref x1), (2, .ref x2), (3, .ref x3), (4, .int x4)] [] σ (.inl (some (.int r.1)), r.2) := by
  unfold f_L_law_b316 at h
  refine hs_aload_n dL_law_316 1 rfl ?_
  refine hs_weak (rc' := 0 + 3 * n) (rs' := 0 + 18 * n) (by omega) (by omega) ?_
  obtain ⟨r1, h1, h⟩ := hb_bind h
  obtain ⟨h1, nf1, hb1⟩ := hb_on_at h1
  refine hs_callVi (μ' := mX8_classes) (mc := 0) (ms := 0) (rc := (3 * n)) (rs := (18 * n)) (As := []) (rest := []) (ci := 8) dL_law_317 lmL_143 okX8_classes rfl (by decide) rfl (Nat.le_of_ble_eq_true rfl) rfl hb1 (c_X8_classes h1) ?_
  refine hs_aload_n dL_law_320 2 rfl ?_
  refine hs_weak (rc' := 0 + 3 * n) (rs' := 0 + 18 * n) (by omega) (by omega) ?_
  obtain ⟨r2, h2, h⟩ := hb_bind h
  obtain ⟨h2, nf2, hb2⟩ := hb_on_at h2
  refine hs_callVi (μ' := mX9_classes) (mc := 0) (ms := 0) (rc := (3 * n)) (rs := (18 * n)) (As := []) (rest := [.int r1.1]) (ci := 9) dL_law_321 lmL_146 okX9_classes rfl (by decide) rfl (Nat.le_of_ble_eq_true rfl) rfl hb2 (c_X9_classes h2) ?_
  refine hs_icmp_eq (tgt := 2704) dL_law_324 (by decide) (fun hc3 => ?_) (fun hc3 => ?_)
  · rw [if_pos hc3] at h
    refine hs_sub (lv' := [(0, .retAddr 0), (1, .ref x1), (2, .ref x2), (3, .ref x3), (4, .int x4)]) [0, 1, 2, 3, 4] rfl ?_
    refine hs_weak (rc' := (3 * n)) (rs' := (18 * n)) (by omega) (by omega) ?_
    exact c_L_law_b2704 hl k23 hk23 h
  · rw [if_neg hc3] at h
    refine hs_iconst (v := (0 : Int32)) dL_law_327 (by decide) ?_
    obtain rfl := Option.some.inj h
    exact hs_ireturn dL_law_328 rfl (by decide) (fun h => by cases h)
set_option maxHeartbeats 4000000 in
set_option maxRecDepth 20000 in
theorem c_L_law_b313 {G : hb_G} {l : Launch} (hl : l.stackTraces = false) {n : Nat}  (k23 : Nat → Nat → Nat → Int32 → hb_M → Option (Int32 × hb_M)) (hk23 : ∀ (x1 : Nat) (x2 : Nat) (x3 : Nat) (x4 : Int32) (σ : hb_M) (r : (Int32 × hb_M)), k23 x1 x2 x3 x4 σ = some r → hb_T G l true mL_law 83 (3 * n) (18 * n) 23 [(0, .retAddr 0), (1, .ref x1), (2, .ref x2), (3, .ref x3), (4, .int x4)] [] σ (.inl (some (.int r.1)), r.2))  {x1 : Nat} {x2 : Nat} {x3 : Nat} {x4 : Int32} {σ : hb_M} {r : (Int32 × hb_M)} (h : f_L_law_b313 G.2.2.2.2.1 G.2.2.2.2.2 k23 x1 x2 x3 x4 σ = some r) : hb_T G l true mL_law 83 (3 * n) (18 * n) 313 [(0, .retAddr 0), (1, .ref x1), (2, .ref x2), (3, .ref x3), (4, .int x4)] [] σ (.inl (some (.int r.1)), r.2) := by
  unfold f_L_law_b313 at h
  refine hs_goto (tgt := 2704) dL_law_313 (by decide) ?_
  refine hs_sub (lv' := [(0, .retAddr 0), (1, .ref x1), (2, .ref x2), (3, .ref x3), (4, .int x4)]) [0, 1, 2, 3, 4] rfl ?_
  refine hs_weak (rc' := (3 * n)) (rs' := (18 * n)) (by omega) (by omega) ?_
  exact c_L_law_b2704 hl k23 hk23 h
set_option maxHeartbeats 4000000 in
set_option maxRecDepth 20000 in
theorem c_L_law_b236 {G : hb_G} {l : Launch} (hl : l.stackTraces = false) {n : Nat}  (k23 : Nat → Nat → Nat → Int32 → hb_M → Option (Int32 × hb_M)) (hk23 : ∀ (x1 : Nat) (x2 : Nat) (x3 : Nat) (x4 : Int32) (σ : hb_M) (r : (Int32 × hb_M)), k23 x1 x2 x3 x4 σ = some r → hb_T G l true mL_law 83 (3 * n) (18 * n) 23 [(0, .retAddr 0), (1, .ref x1), (2, .ref x2), (3, .ref x3), (4, .int x4)] [] σ (.inl (some (.int r.1)), r.2))  {x1 : Nat} {x2 : Nat} {x3 : Nat} {x4 : Int32} {σ : hb_M} {r : (Int32 × hb_M)} (h : f_L_law_b236 G.2.2.2.2.1 G.2.2.2.2.2 k23 x1 x2 x3 x4 σ = some r) : hb_T G l true mL_law 83 (3 * n + 3) (18 * n + 18) 236 [(0, .retAddr 0), (1, .ref x1), (2, .ref x2), (3, .ref x3), (4, .int x4)] [] σ (.inl (some (.int r.1)), r.2) := by
  unfold f_L_law_b236 at h
  refine hs_aload_n dL_law_236 1 rfl ?_
  refine hs_sload_n dL_law_237 0 rfl ?_
  refine hs_iload dL_law_238 4 rfl ?_
  refine hs_iconst (v := (1 : Int32)) dL_law_240 (by decide) ?_
  refine hs_iadd dL_law_241 ?_
  obtain ⟨r1, h1, h⟩ := hb_bind h
  refine hs_iald dL_law_242 h1 ?_
  refine hs_sload_n dL_law_243 0 rfl ?_
  refine hs_iload dL_law_244 4 rfl ?_
  refine hs_iconst (v := (2 : Int32)) dL_law_246 (by decide) ?_
  refine hs_iadd dL_law_247 ?_
  obtain ⟨r2, h2, h⟩ := hb_bind h
  refine hs_iald dL_law_248 h2 ?_
  refine hs_sload_n dL_law_249 0 rfl ?_
  refine hs_iload dL_law_250 4 rfl ?_
  refine hs_iconst (v := (3 : Int32)) dL_law_252 (by decide) ?_
  refine hs_iadd dL_law_253 ?_
  obtain ⟨r3, h3, h⟩ := hb_bind h
  refine hs_iald dL_law_254 h3 ?_
  refine hs_aload_n dL_law_255 3 rfl ?_
  refine hs_weak (rc' := 1 + 3 * n) (rs' := 6 + 18 * n) (by omega) (by omega) ?_
  obtain ⟨r4, h4, h⟩ := hb_bind h
  refine hs_callSXi (μ' := mL_defineClass) (mc := 1) (ms := 6) (rc := (3 * n)) (rs := (18 * n)) (As := [.ref x1, .int r1, .int r2, .int r3, .ref x3]) (rest := []) dL_law_256 lmL_134 okL_defineClass rfl (by decide) rfl (Nat.le_of_ble_eq_true rfl) (c_L_defineClass hl h4) ?_
  refine hs_istore (lv' := [(5, .int r4.1), (0, .retAddr 0), (1, .ref x1), (2, .ref x2), (3, .ref x3), (4, .int x4)]) dL_law_259 (by decide) rfl ?_
  refine hs_aload_n dL_law_261 3 rfl ?_
  refine hs_sload_n dL_law_262 1 rfl ?_
  refine hs_iload dL_law_263 5 rfl ?_
  refine hs_iconst (v := (1 : Int32)) dL_law_265 (by decide) ?_
  refine hs_iadd dL_law_266 ?_
  obtain ⟨r5, h5, h⟩ := hb_bind h
  refine hs_iald dL_law_267 h5 ?_
  refine hs_sload_n dL_law_268 1 rfl ?_
  refine hs_iload dL_law_269 5 rfl ?_
  refine hs_iconst (v := (2 : Int32)) dL_law_271 (by decide) ?_
  refine hs_iadd dL_law_272 ?_
  obtain ⟨r6, h6, h⟩ := hb_bind h
  refine hs_iald dL_law_273 h6 ?_
  refine hs_sload_n dL_law_274 1 rfl ?_
  refine hs_iload dL_law_275 5 rfl ?_
  refine hs_iconst (v := (3 : Int32)) dL_law_277 (by decide) ?_
  refine hs_iadd dL_law_278 ?_
  obtain ⟨r7, h7, h⟩ := hb_bind h
  refine hs_iald dL_law_279 h7 ?_
  refine hs_weak (rc' := 0 + 3 * n) (rs' := 0 + 18 * n) (by omega) (by omega) ?_
  obtain ⟨r8, h8, h⟩ := hb_bind h
  obtain ⟨h8, nf8, hb8⟩ := hb_on_at h8
  refine hs_callVi (μ' := mX9_defineClass) (mc := 0) (ms := 0) (rc := (3 * n)) (rs := (18 * n)) (As := [.int r5, .int r6, .int r7]) (rest := []) (ci := 9) dL_law_280 lmL_139 okX9_defineClass rfl (by decide) rfl (Nat.le_of_ble_eq_true rfl) rfl hb8 (c_X9_defineClass h8) ?_
  refine hs_istore (lv' := [(6, .int r8.1), (5, .int r4.1), (0, .retAddr 0), (1, .ref x1), (2, .ref x2), (3, .ref x3), (4, .int x4)]) dL_law_283 (by decide) rfl ?_
  refine hs_aload_n dL_law_285 4 rfl ?_
  refine hs_weak (rc' := 0 + 3 * n) (rs' := 0 + 18 * n) (by omega) (by omega) ?_
  obtain ⟨r9, h9, h⟩ := hb_bind h
  obtain ⟨h9, nf9, hb9⟩ := hb_on_at h9
  refine hs_callVi (μ' := mX9_thrown) (mc := 0) (ms := 0) (rc := (3 * n)) (rs := (18 * n)) (As := []) (rest := []) (ci := 9) dL_law_286 lmL_140 okX9_thrown rfl (by decide) rfl (Nat.le_of_ble_eq_true rfl) rfl hb9 (c_X9_thrown h9) ?_
  refine hs_iload dL_law_289 1 rfl ?_
  refine hs_icmp_eq (tgt := 296) dL_law_291 (by decide) (fun hc10 => ?_) (fun hc10 => ?_)
  · rw [if_pos hc10] at h
    refine hs_iload dL_law_296 1 rfl ?_
    refine hs_if_ne (tgt := 313) dL_law_298 (by decide) (fun hc11 => ?_) (fun hc11 => ?_)
    · rw [if_neg hc11] at h
      refine hs_sub (lv' := [(0, .retAddr 0), (1, .ref x1), (2, .ref x2), (3, .ref x3), (4, .int x4)]) [2, 3, 4, 5, 6] rfl ?_
      refine hs_weak (rc' := (3 * n)) (rs' := (18 * n)) (by omega) (by omega) ?_
      exact c_L_law_b313 hl k23 hk23 h
    · rw [if_pos hc11] at h
      refine hs_aload_n dL_law_301 5 rfl ?_
      refine hs_iconst (v := (0 : Int32)) dL_law_302 (by decide) ?_
      obtain ⟨r12, h12, h⟩ := hb_bind h
      refine hs_lald dL_law_303 h12 ?_
      refine hs_iload dL_law_304 0 rfl ?_
      refine hs_i2l dL_law_306 ?_
      refine hs_lcmp dL_law_307 ?_
      refine hs_if_eq (tgt := 313) dL_law_308 (by decide) (fun hc13 => ?_) (fun hc13 => ?_)
      · rw [if_pos hc13] at h
        refine hs_sub (lv' := [(0, .retAddr 0), (1, .ref x1), (2, .ref x2), (3, .ref x3), (4, .int x4)]) [2, 3, 4, 5, 6] rfl ?_
        refine hs_weak (rc' := (3 * n)) (rs' := (18 * n)) (by omega) (by omega) ?_
        exact c_L_law_b313 hl k23 hk23 h
      · rw [if_neg hc13] at h
        refine hs_iconst (v := (0 : Int32)) dL_law_311 (by decide) ?_
        obtain rfl := Option.some.inj h
        exact hs_ireturn dL_law_312 rfl (by decide) (fun h => by cases h)
  · rw [if_neg hc10] at h
    refine hs_iconst (v := (0 : Int32)) dL_law_294 (by decide) ?_
    obtain rfl := Option.some.inj h
    exact hs_ireturn dL_law_295 rfl (by decide) (fun h => by cases h)
set_option maxHeartbeats 4000000 in
set_option maxRecDepth 20000 in
theorem c_L_law_b23 {G : hb_G} {l : Launch} (hl : l.stackTraces = false) : ∀ (n : Nat) (x1 : Nat) (x2 : Nat) (x3 : Nat) (x4 : Int32) (σ : hb_M) (r : (Int32 × hb_M)), f_L_law_b23 G.2.2.2.2.1 G.2.2.2.2.2 n x1 x2 x3 x4 σ = some r → hb_T G l true mL_law 83 (3 * n) (18 * n) 23 [(0, .retAddr 0), (1, .ref x1), (2, .ref x2), (3, .ref x3), (4, .int x4)] [] σ (.inl (some (.int r.1)), r.2) := by
  intro n
  induction n with
  | zero =>
    intro x1 x2 x3 x4 σ r h
    cases h
  | succ n ih =>
    intro x1 x2 x3 x4 σ r h
    rw [f_L_law_b23] at h
    refine hs_iload dL_law_23 4 rfl ?_
    refine hs_sload_n dL_law_25 0 rfl ?_
    refine hs_slen dL_law_26 ?_
    refine hs_iconst (v := (4 : Int32)) dL_law_27 (by decide) ?_
    refine hs_isub dL_law_28 ?_
    refine hs_icmp_gt (tgt := 2710) dL_law_29 (by decide) (fun hc1 => ?_) (fun hc1 => ?_)
    · rw [if_pos hc1] at h
      refine hs_iconst (v := (1 : Int32)) dL_law_2710 (by decide) ?_
      obtain rfl := Option.some.inj h
      exact hs_ireturn dL_law_2711 rfl (by decide) (fun h => by cases h)
    · rw [if_neg hc1] at h
      refine hs_sload_n dL_law_32 0 rfl ?_
      refine hs_iload dL_law_33 4 rfl ?_
      obtain ⟨r2, h2, h⟩ := hb_bind h
      refine hs_iald dL_law_35 h2 ?_
      refine hs_bipush (v := (63 : Int32)) dL_law_36 (by decide) ?_
      refine hs_iand dL_law_38 ?_
      by_cases hc3 : (r2 &&& (63 : Int32)) = (0 : Int32)
      · rw [if_pos hc3] at h
        refine hs_tblC (tgt := 236) (off := 197) (0 : Int32) dL_law_39 hc3 (by decide) (by decide) (by decide) (by decide) ?_
        refine hs_sub (lv' := [(0, .retAddr 0), (1, .ref x1), (2, .ref x2), (3, .ref x3), (4, .int x4)]) [0, 1, 2, 3, 4] rfl ?_
        refine hs_weak (rc' := (3 * n + 3)) (rs' := (18 * n + 18)) (by omega) (by omega) ?_
        exact c_L_law_b236 hl (f_L_law_b23 G.2.2.2.2.1 G.2.2.2.2.2 n) ih h
      rw [if_neg hc3] at h
      by_cases hc4 : (r2 &&& (63 : Int32)) = (1 : Int32)
      · rw [if_pos hc4] at h
        refine hs_tblC (tgt := 316) (off := 277) (1 : Int32) dL_law_39 hc4 (by decide) (by decide) (by decide) (by decide) ?_
        refine hs_sub (lv' := [(0, .retAddr 0), (1, .ref x1), (2, .ref x2), (3, .ref x3), (4, .int x4)]) [0, 1, 2, 3, 4] rfl ?_
        refine hs_weak (rc' := (3 * n + 3)) (rs' := (18 * n + 18)) (by omega) (by omega) ?_
        exact c_L_law_b316 hl (f_L_law_b23 G.2.2.2.2.1 G.2.2.2.2.2 n) ih h
      rw [if_neg hc4] at h
      by_cases hc5 : (r2 &&& (63 : Int32)) = (2 : Int32)
      · rw [if_pos hc5] at h
        refine hs_tblC (tgt := 329) (off := 290) (2 : Int32) dL_law_39 hc5 (by decide) (by decide) (by decide) (by decide) ?_
        refine hs_sub (lv' := [(0, .retAddr 0), (1, .ref x1), (2, .ref x2), (3, .ref x3), (4, .int x4)]) [0, 1, 2, 3, 4] rfl ?_
        refine hs_weak (rc' := (3 * n + 3)) (rs' := (18 * n + 18)) (by omega) (by omega) ?_
        exact c_L_law_b329 hl (f_L_law_b23 G.2.2.2.2.1 G.2.2.2.2.2 n) ih h
      rw [if_neg hc5] at h
      by_cases hc6 : (r2 &&& (63 : Int32)) = (3 : Int32)
      · rw [if_pos hc6] at h
        refine hs_tblC (tgt := 397) (off := 358) (3 : Int32) dL_law_39 hc6 (by decide) (by decide) (by decide) (by decide) ?_
        refine hs_sub (lv' := [(0, .retAddr 0), (1, .ref x1), (2, .ref x2), (3, .ref x3), (4, .int x4)]) [0, 1, 2, 3, 4] rfl ?_
        refine hs_weak (rc' := (3 * n + 3)) (rs' := (18 * n + 18)) (by omega) (by omega) ?_
        exact c_L_law_b397 hl (f_L_law_b23 G.2.2.2.2.1 G.2.2.2.2.2 n) ih h
      rw [if_neg hc6] at h
      by_cases hc7 : (r2 &&& (63 : Int32)) = (4 : Int32)
      · rw [if_pos hc7] at h
        refine hs_tblC (tgt := 472) (off := 433) (4 : Int32) dL_law_39 hc7 (by decide) (by decide) (by decide) (by decide) ?_
        refine hs_sub (lv' := [(0, .retAddr 0), (1, .ref x1), (2, .ref x2), (3, .ref x3), (4, .int x4)]) [0, 1, 2, 3, 4] rfl ?_
        refine hs_weak (rc' := (3 * n + 3)) (rs' := (18 * n + 18)) (by omega) (by omega) ?_
        exact c_L_law_b472 hl (f_L_law_b23 G.2.2.2.2.1 G.2.2.2.2.2 n) ih h
      rw [if_neg hc7] at h
      by_cases hc8 : (r2 &&& (63 : Int32)) = (5 : Int32)
      · rw [if_pos hc8] at h
        refine hs_tblC (tgt := 528) (off := 489) (5 : Int32) dL_law_39 hc8 (by decide) (by decide) (by decide) (by decide) ?_
        refine hs_sub (lv' := [(0, .retAddr 0), (1, .ref x1), (2, .ref x2), (3, .ref x3), (4, .int x4)]) [0, 1, 2, 3, 4] rfl ?_
        refine hs_weak (rc' := (3 * n + 3)) (rs' := (18 * n + 18)) (by omega) (by omega) ?_
        exact c_L_law_b528 hl (f_L_law_b23 G.2.2.2.2.1 G.2.2.2.2.2 n) ih h
      rw [if_neg hc8] at h
      by_cases hc9 : (r2 &&& (63 : Int32)) = (6 : Int32)
      · rw [if_pos hc9] at h
        refine hs_tblC (tgt := 584) (off := 545) (6 : Int32) dL_law_39 hc9 (by decide) (by decide) (by decide) (by decide) ?_
        refine hs_sub (lv' := [(0, .retAddr 0), (1, .ref x1), (2, .ref x2), (3, .ref x3), (4, .int x4)]) [0, 1, 2, 3, 4] rfl ?_
        refine hs_weak (rc' := (3 * n + 3)) (rs' := (18 * n + 18)) (by omega) (by omega) ?_
        exact c_L_law_b584 hl (f_L_law_b23 G.2.2.2.2.1 G.2.2.2.2.2 n) ih h
      rw [if_neg hc9] at h
      by_cases hc10 : (r2 &&& (63 : Int32)) = (7 : Int32)
      · rw [if_pos hc10] at h
        refine hs_tblC (tgt := 628) (off := 589) (7 : Int32) dL_law_39 hc10 (by decide) (by decide) (by decide) (by decide) ?_
        refine hs_sub (lv' := [(0, .retAddr 0), (1, .ref x1), (2, .ref x2), (3, .ref x3), (4, .int x4)]) [0, 1, 2, 3, 4] rfl ?_
        refine hs_weak (rc' := (3 * n + 3)) (rs' := (18 * n + 18)) (by omega) (by omega) ?_
        exact c_L_law_b628 hl (f_L_law_b23 G.2.2.2.2.1 G.2.2.2.2.2 n) ih h
      rw [if_neg hc10] at h
      by_cases hc11 : (r2 &&& (63 : Int32)) = (8 : Int32)
      · rw [if_pos hc11] at h
        refine hs_tblC (tgt := 708) (off := 669) (8 : Int32) dL_law_39 hc11 (by decide) (by decide) (by decide) (by decide) ?_
        refine hs_sub (lv' := [(0, .retAddr 0), (1, .ref x1), (2, .ref x2), (3, .ref x3), (4, .int x4)]) [0, 1, 2, 3, 4] rfl ?_
        refine hs_weak (rc' := (3 * n + 3)) (rs' := (18 * n + 18)) (by omega) (by omega) ?_
        exact c_L_law_b708 hl (f_L_law_b23 G.2.2.2.2.1 G.2.2.2.2.2 n) ih h
      rw [if_neg hc11] at h
      by_cases hc12 : (r2 &&& (63 : Int32)) = (9 : Int32)
      · rw [if_pos hc12] at h
        refine hs_tblC (tgt := 776) (off := 737) (9 : Int32) dL_law_39 hc12 (by decide) (by decide) (by decide) (by decide) ?_
        refine hs_sub (lv' := [(0, .retAddr 0), (1, .ref x1), (2, .ref x2), (3, .ref x3), (4, .int x4)]) [0, 1, 2, 3, 4] rfl ?_
        refine hs_weak (rc' := (3 * n + 3)) (rs' := (18 * n + 18)) (by omega) (by omega) ?_
        exact c_L_law_b776 hl (f_L_law_b23 G.2.2.2.2.1 G.2.2.2.2.2 n) ih h
      rw [if_neg hc12] at h
      by_cases hc13 : (r2 &&& (63 : Int32)) = (10 : Int32)
      · rw [if_pos hc13] at h
        refine hs_tblC (tgt := 844) (off := 805) (10 : Int32) dL_law_39 hc13 (by decide) (by decide) (by decide) (by decide) ?_
        refine hs_sub (lv' := [(0, .retAddr 0), (1, .ref x1), (2, .ref x2), (3, .ref x3), (4, .int x4)]) [0, 1, 2, 3, 4] rfl ?_
        refine hs_weak (rc' := (3 * n + 3)) (rs' := (18 * n + 18)) (by omega) (by omega) ?_
        exact c_L_law_b844 hl (f_L_law_b23 G.2.2.2.2.1 G.2.2.2.2.2 n) ih h
      rw [if_neg hc13] at h
      by_cases hc14 : (r2 &&& (63 : Int32)) = (11 : Int32)
      · rw [if_pos hc14] at h
        refine hs_tblC (tgt := 900) (off := 861) (11 : Int32) dL_law_39 hc14 (by decide) (by decide) (by decide) (by decide) ?_
        refine hs_sub (lv' := [(0, .retAddr 0), (1, .ref x1), (2, .ref x2), (3, .ref x3), (4, .int x4)]) [0, 1, 2, 3, 4] rfl ?_
        refine hs_weak (rc' := (3 * n + 3)) (rs' := (18 * n + 18)) (by omega) (by omega) ?_
        exact c_L_law_b900 hl (f_L_law_b23 G.2.2.2.2.1 G.2.2.2.2.2 n) ih h
      rw [if_neg hc14] at h
      by_cases hc15 : (r2 &&& (63 : Int32)) = (12 : Int32)
      · rw [if_pos hc15] at h
        refine hs_tblC (tgt := 968) (off := 929) (12 : Int32) dL_law_39 hc15 (by decide) (by decide) (by decide) (by decide) ?_
        refine hs_sub (lv' := [(0, .retAddr 0), (1, .ref x1), (2, .ref x2), (3, .ref x3), (4, .int x4)]) [0, 1, 2, 3, 4] rfl ?_
        refine hs_weak (rc' := (3 * n + 3)) (rs' := (18 * n + 18)) (by omega) (by omega) ?_
        exact c_L_law_b968 hl (f_L_law_b23 G.2.2.2.2.1 G.2.2.2.2.2 n) ih h
      rw [if_neg hc15] at h
      by_cases hc16 : (r2 &&& (63 : Int32)) = (13 : Int32)
      · rw [if_pos hc16] at h
        refine hs_tblC (tgt := 1036) (off := 997) (13 : Int32) dL_law_39 hc16 (by decide) (by decide) (by decide) (by decide) ?_
        refine hs_sub (lv' := [(0, .retAddr 0), (1, .ref x1), (2, .ref x2), (3, .ref x3), (4, .int x4)]) [0, 1, 2, 3, 4] rfl ?_
        refine hs_weak (rc' := (3 * n + 3)) (rs' := (18 * n + 18)) (by omega) (by omega) ?_
        exact c_L_law_b1036 hl (f_L_law_b23 G.2.2.2.2.1 G.2.2.2.2.2 n) ih h
      rw [if_neg hc16] at h
      by_cases hc17 : (r2 &&& (63 : Int32)) = (14 : Int32)
      · rw [if_pos hc17] at h
        refine hs_tblC (tgt := 1049) (off := 1010) (14 : Int32) dL_law_39 hc17 (by decide) (by decide) (by decide) (by decide) ?_
        refine hs_sub (lv' := [(0, .retAddr 0), (1, .ref x1), (2, .ref x2), (3, .ref x3), (4, .int x4)]) [0, 1, 2, 3, 4] rfl ?_
        refine hs_weak (rc' := (3 * n + 3)) (rs' := (18 * n + 18)) (by omega) (by omega) ?_
        exact c_L_law_b1049 hl (f_L_law_b23 G.2.2.2.2.1 G.2.2.2.2.2 n) ih h
      rw [if_neg hc17] at h
      by_cases hc18 : (r2 &&& (63 : Int32)) = (15 : Int32)
      · rw [if_pos hc18] at h
        refine hs_tblC (tgt := 1062) (off := 1023) (15 : Int32) dL_law_39 hc18 (by decide) (by decide) (by decide) (by decide) ?_
        refine hs_sub (lv' := [(0, .retAddr 0), (1, .ref x1), (2, .ref x2), (3, .ref x3), (4, .int x4)]) [0, 1, 2, 3, 4] rfl ?_
        refine hs_weak (rc' := (3 * n + 3)) (rs' := (18 * n + 18)) (by omega) (by omega) ?_
        exact c_L_law_b1062 hl (f_L_law_b23 G.2.2.2.2.1 G.2.2.2.2.2 n) ih h
      rw [if_neg hc18] at h
      by_cases hc19 : (r2 &&& (63 : Int32)) = (16 : Int32)
      · rw [if_pos hc19] at h
        refine hs_tblC (tgt := 1087) (off := 1048) (16 : Int32) dL_law_39 hc19 (by decide) (by decide) (by decide) (by decide) ?_
        refine hs_sub (lv' := [(0, .retAddr 0), (1, .ref x1), (2, .ref x2), (3, .ref x3), (4, .int x4)]) [0, 1, 2, 3, 4] rfl ?_
        refine hs_weak (rc' := (3 * n + 3)) (rs' := (18 * n + 18)) (by omega) (by omega) ?_
        exact c_L_law_b1087 hl (f_L_law_b23 G.2.2.2.2.1 G.2.2.2.2.2 n) ih h
      rw [if_neg hc19] at h
      by_cases hc20 : (r2 &&& (63 : Int32)) = (17 : Int32)
      · rw [if_pos hc20] at h
        refine hs_tblC (tgt := 1155) (off := 1116) (17 : Int32) dL_law_39 hc20 (by decide) (by decide) (by decide) (by decide) ?_
        refine hs_sub (lv' := [(0, .retAddr 0), (1, .ref x1), (2, .ref x2), (3, .ref x3), (4, .int x4)]) [0, 1, 2, 3, 4] rfl ?_
        refine hs_weak (rc' := (3 * n + 3)) (rs' := (18 * n + 18)) (by omega) (by omega) ?_
        exact c_L_law_b1155 hl (f_L_law_b23 G.2.2.2.2.1 G.2.2.2.2.2 n) ih h
      rw [if_neg hc20] at h
      by_cases hc21 : (r2 &&& (63 : Int32)) = (18 : Int32)
      · rw [if_pos hc21] at h
        refine hs_tblC (tgt := 1223) (off := 1184) (18 : Int32) dL_law_39 hc21 (by decide) (by decide) (by decide) (by decide) ?_
        refine hs_sub (lv' := [(0, .retAddr 0), (1, .ref x1), (2, .ref x2), (3, .ref x3), (4, .int x4)]) [0, 1, 2, 3, 4] rfl ?_
        refine hs_weak (rc' := (3 * n + 3)) (rs' := (18 * n + 18)) (by omega) (by omega) ?_
        exact c_L_law_b1223 hl (f_L_law_b23 G.2.2.2.2.1 G.2.2.2.2.2 n) ih h
      rw [if_neg hc21] at h
      by_cases hc22 : (r2 &&& (63 : Int32)) = (19 : Int32)
      · rw [if_pos hc22] at h
        refine hs_tblC (tgt := 1279) (off := 1240) (19 : Int32) dL_law_39 hc22 (by decide) (by decide) (by decide) (by decide) ?_
        refine hs_sub (lv' := [(0, .retAddr 0), (1, .ref x1), (2, .ref x2), (3, .ref x3), (4, .int x4)]) [0, 1, 2, 3, 4] rfl ?_
        refine hs_weak (rc' := (3 * n + 3)) (rs' := (18 * n + 18)) (by omega) (by omega) ?_
        exact c_L_law_b1279 hl (f_L_law_b23 G.2.2.2.2.1 G.2.2.2.2.2 n) ih h
      rw [if_neg hc22] at h
      by_cases hc23 : (r2 &&& (63 : Int32)) = (20 : Int32)
      · rw [if_pos hc23] at h
        refine hs_tblC (tgt := 1347) (off := 1308) (20 : Int32) dL_law_39 hc23 (by decide) (by decide) (by decide) (by decide) ?_
        refine hs_sub (lv' := [(0, .retAddr 0), (1, .ref x1), (2, .ref x2), (3, .ref x3), (4, .int x4)]) [0, 1, 2, 3, 4] rfl ?_
        refine hs_weak (rc' := (3 * n + 3)) (rs' := (18 * n + 18)) (by omega) (by omega) ?_
        exact c_L_law_b1347 hl (f_L_law_b23 G.2.2.2.2.1 G.2.2.2.2.2 n) ih h
      rw [if_neg hc23] at h
      by_cases hc24 : (r2 &&& (63 : Int32)) = (21 : Int32)
      · rw [if_pos hc24] at h
        refine hs_tblC (tgt := 1422) (off := 1383) (21 : Int32) dL_law_39 hc24 (by decide) (by decide) (by decide) (by decide) ?_
        refine hs_sub (lv' := [(0, .retAddr 0), (1, .ref x1), (2, .ref x2), (3, .ref x3), (4, .int x4)]) [0, 1, 2, 3, 4] rfl ?_
        refine hs_weak (rc' := (3 * n + 3)) (rs' := (18 * n + 18)) (by omega) (by omega) ?_
        exact c_L_law_b1422 hl (f_L_law_b23 G.2.2.2.2.1 G.2.2.2.2.2 n) ih h
      rw [if_neg hc24] at h
      by_cases hc25 : (r2 &&& (63 : Int32)) = (22 : Int32)
      · rw [if_pos hc25] at h
        refine hs_tblC (tgt := 1478) (off := 1439) (22 : Int32) dL_law_39 hc25 (by decide) (by decide) (by decide) (by decide) ?_
        refine hs_sub (lv' := [(0, .retAddr 0), (1, .ref x1), (2, .ref x2), (3, .ref x3), (4, .int x4)]) [0, 1, 2, 3, 4] rfl ?_
        refine hs_weak (rc' := (3 * n + 3)) (rs' := (18 * n + 18)) (by omega) (by omega) ?_
        exact c_L_law_b1478 hl (f_L_law_b23 G.2.2.2.2.1 G.2.2.2.2.2 n) ih h
      rw [if_neg hc25] at h
      by_cases hc26 : (r2 &&& (63 : Int32)) = (23 : Int32)
      · rw [if_pos hc26] at h
        refine hs_tblC (tgt := 1534) (off := 1495) (23 : Int32) dL_law_39 hc26 (by decide) (by decide) (by decide) (by decide) ?_
        refine hs_sub (lv' := [(0, .retAddr 0), (1, .ref x1), (2, .ref x2), (3, .ref x3), (4, .int x4)]) [0, 1, 2, 3, 4] rfl ?_
        refine hs_weak (rc' := (3 * n + 3)) (rs' := (18 * n + 18)) (by omega) (by omega) ?_
        exact c_L_law_b1534 hl (f_L_law_b23 G.2.2.2.2.1 G.2.2.2.2.2 n) ih h
      rw [if_neg hc26] at h
      by_cases hc27 : (r2 &&& (63 : Int32)) = (24 : Int32)
      · rw [if_pos hc27] at h
        refine hs_tblC (tgt := 1602) (off := 1563) (24 : Int32) dL_law_39 hc27 (by decide) (by decide) (by decide) (by decide) ?_
        refine hs_sub (lv' := [(0, .retAddr 0), (1, .ref x1), (2, .ref x2), (3, .ref x3), (4, .int x4)]) [0, 1, 2, 3, 4] rfl ?_
        refine hs_weak (rc' := (3 * n + 3)) (rs' := (18 * n + 18)) (by omega) (by omega) ?_
        exact c_L_law_b1602 hl (f_L_law_b23 G.2.2.2.2.1 G.2.2.2.2.2 n) ih h
      rw [if_neg hc27] at h
      by_cases hc28 : (r2 &&& (63 : Int32)) = (25 : Int32)
      · rw [if_pos hc28] at h
        refine hs_tblC (tgt := 1658) (off := 1619) (25 : Int32) dL_law_39 hc28 (by decide) (by decide) (by decide) (by decide) ?_
        refine hs_sub (lv' := [(0, .retAddr 0), (1, .ref x1), (2, .ref x2), (3, .ref x3), (4, .int x4)]) [0, 1, 2, 3, 4] rfl ?_
        refine hs_weak (rc' := (3 * n + 3)) (rs' := (18 * n + 18)) (by omega) (by omega) ?_
        exact c_L_law_b1658 hl (f_L_law_b23 G.2.2.2.2.1 G.2.2.2.2.2 n) ih h
      rw [if_neg hc28] at h
      by_cases hc29 : (r2 &&& (63 : Int32)) = (26 : Int32)
      · rw [if_pos hc29] at h
        refine hs_tblC (tgt := 1714) (off := 1675) (26 : Int32) dL_law_39 hc29 (by decide) (by decide) (by decide) (by decide) ?_
        refine hs_sub (lv' := [(0, .retAddr 0), (1, .ref x1), (2, .ref x2), (3, .ref x3), (4, .int x4)]) [0, 1, 2, 3, 4] rfl ?_
        refine hs_weak (rc' := (3 * n + 3)) (rs' := (18 * n + 18)) (by omega) (by omega) ?_
        exact c_L_law_b1714 hl (f_L_law_b23 G.2.2.2.2.1 G.2.2.2.2.2 n) ih h
      rw [if_neg hc29] at h
      by_cases hc30 : (r2 &&& (63 : Int32)) = (27 : Int32)
      · rw [if_pos hc30] at h
        refine hs_tblC (tgt := 1770) (off := 1731) (27 : Int32) dL_law_39 hc30 (by decide) (by decide) (by decide) (by decide) ?_
        refine hs_sub (lv' := [(0, .retAddr 0), (1, .ref x1), (2, .ref x2), (3, .ref x3), (4, .int x4)]) [0, 1, 2, 3, 4] rfl ?_
        refine hs_weak (rc' := (3 * n + 3)) (rs' := (18 * n + 18)) (by omega) (by omega) ?_
        exact c_L_law_b1770 hl (f_L_law_b23 G.2.2.2.2.1 G.2.2.2.2.2 n) ih h
      rw [if_neg hc30] at h
      by_cases hc31 : (r2 &&& (63 : Int32)) = (28 : Int32)
      · rw [if_pos hc31] at h
        refine hs_tblC (tgt := 1826) (off := 1787) (28 : Int32) dL_law_39 hc31 (by decide) (by decide) (by decide) (by decide) ?_
        refine hs_sub (lv' := [(0, .retAddr 0), (1, .ref x1), (2, .ref x2), (3, .ref x3), (4, .int x4)]) [0, 1, 2, 3, 4] rfl ?_
        refine hs_weak (rc' := (3 * n + 3)) (rs' := (18 * n + 18)) (by omega) (by omega) ?_
        exact c_L_law_b1826 hl (f_L_law_b23 G.2.2.2.2.1 G.2.2.2.2.2 n) ih h
      rw [if_neg hc31] at h
      by_cases hc32 : (r2 &&& (63 : Int32)) = (29 : Int32)
      · rw [if_pos hc32] at h
        refine hs_tblC (tgt := 1894) (off := 1855) (29 : Int32) dL_law_39 hc32 (by decide) (by decide) (by decide) (by decide) ?_
        refine hs_sub (lv' := [(0, .retAddr 0), (1, .ref x1), (2, .ref x2), (3, .ref x3), (4, .int x4)]) [0, 1, 2, 3, 4] rfl ?_
        refine hs_weak (rc' := (3 * n + 3)) (rs' := (18 * n + 18)) (by omega) (by omega) ?_
        exact c_L_law_b1894 hl (f_L_law_b23 G.2.2.2.2.1 G.2.2.2.2.2 n) ih h
      rw [if_neg hc32] at h
      by_cases hc33 : (r2 &&& (63 : Int32)) = (30 : Int32)
      · rw [if_pos hc33] at h
        refine hs_tblC (tgt := 1950) (off := 1911) (30 : Int32) dL_law_39 hc33 (by decide) (by decide) (by decide) (by decide) ?_
        refine hs_sub (lv' := [(0, .retAddr 0), (1, .ref x1), (2, .ref x2), (3, .ref x3), (4, .int x4)]) [0, 1, 2, 3, 4] rfl ?_
        refine hs_weak (rc' := (3 * n + 3)) (rs' := (18 * n + 18)) (by omega) (by omega) ?_
        exact c_L_law_b1950 hl (f_L_law_b23 G.2.2.2.2.1 G.2.2.2.2.2 n) ih h
      rw [if_neg hc33] at h
      by_cases hc34 : (r2 &&& (63 : Int32)) = (31 : Int32)
      · rw [if_pos hc34] at h
        refine hs_tblC (tgt := 2046) (off := 2007) (31 : Int32) dL_law_39 hc34 (by decide) (by decide) (by decide) (by decide) ?_
        refine hs_sub (lv' := [(0, .retAddr 0), (1, .ref x1), (2, .ref x2), (3, .ref x3), (4, .int x4)]) [0, 1, 2, 3, 4] rfl ?_
        refine hs_weak (rc' := (3 * n + 3)) (rs' := (18 * n + 18)) (by omega) (by omega) ?_
        exact c_L_law_b2046 hl (f_L_law_b23 G.2.2.2.2.1 G.2.2.2.2.2 n) ih h
      rw [if_neg hc34] at h
      by_cases hc35 : (r2 &&& (63 : Int32)) = (32 : Int32)
      · rw [if_pos hc35] at h
        refine hs_tblC (tgt := 2101) (off := 2062) (32 : Int32) dL_law_39 hc35 (by decide) (by decide) (by decide) (by decide) ?_
        refine hs_sub (lv' := [(0, .retAddr 0), (1, .ref x1), (2, .ref x2), (3, .ref x3), (4, .int x4)]) [0, 1, 2, 3, 4] rfl ?_
        refine hs_weak (rc' := (3 * n + 3)) (rs' := (18 * n + 18)) (by omega) (by omega) ?_
        exact c_L_law_b2101 hl (f_L_law_b23 G.2.2.2.2.1 G.2.2.2.2.2 n) ih h
      rw [if_neg hc35] at h
      by_cases hc36 : (r2 &&& (63 : Int32)) = (33 : Int32)
      · rw [if_pos hc36] at h
        refine hs_tblC (tgt := 2157) (off := 2118) (33 : Int32) dL_law_39 hc36 (by decide) (by decide) (by decide) (by decide) ?_
        refine hs_sub (lv' := [(0, .retAddr 0), (1, .ref x1), (2, .ref x2), (3, .ref x3), (4, .int x4)]) [0, 1, 2, 3, 4] rfl ?_
        refine hs_weak (rc' := (3 * n + 3)) (rs' := (18 * n + 18)) (by omega) (by omega) ?_
        exact c_L_law_b2157 hl (f_L_law_b23 G.2.2.2.2.1 G.2.2.2.2.2 n) ih h
      rw [if_neg hc36] at h
      by_cases hc37 : (r2 &&& (63 : Int32)) = (34 : Int32)
      · rw [if_pos hc37] at h
        refine hs_tblC (tgt := 2225) (off := 2186) (34 : Int32) dL_law_39 hc37 (by decide) (by decide) (by decide) (by decide) ?_
        refine hs_sub (lv' := [(0, .retAddr 0), (1, .ref x1), (2, .ref x2), (3, .ref x3), (4, .int x4)]) [0, 1, 2, 3, 4] rfl ?_
        refine hs_weak (rc' := (3 * n + 3)) (rs' := (18 * n + 18)) (by omega) (by omega) ?_
        exact c_L_law_b2225 hl (f_L_law_b23 G.2.2.2.2.1 G.2.2.2.2.2 n) ih h
      rw [if_neg hc37] at h
      by_cases hc38 : (r2 &&& (63 : Int32)) = (35 : Int32)
      · rw [if_pos hc38] at h
        refine hs_tblC (tgt := 2293) (off := 2254) (35 : Int32) dL_law_39 hc38 (by decide) (by decide) (by decide) (by decide) ?_
        refine hs_sub (lv' := [(0, .retAddr 0), (1, .ref x1), (2, .ref x2), (3, .ref x3), (4, .int x4)]) [0, 1, 2, 3, 4] rfl ?_
        refine hs_weak (rc' := (3 * n + 3)) (rs' := (18 * n + 18)) (by omega) (by omega) ?_
        exact c_L_law_b2293 hl (f_L_law_b23 G.2.2.2.2.1 G.2.2.2.2.2 n) ih h
      rw [if_neg hc38] at h
      by_cases hc39 : (r2 &&& (63 : Int32)) = (36 : Int32)
      · rw [if_pos hc39] at h
        refine hs_tblC (tgt := 2349) (off := 2310) (36 : Int32) dL_law_39 hc39 (by decide) (by decide) (by decide) (by decide) ?_
        refine hs_sub (lv' := [(0, .retAddr 0), (1, .ref x1), (2, .ref x2), (3, .ref x3), (4, .int x4)]) [0, 1, 2, 3, 4] rfl ?_
        refine hs_weak (rc' := (3 * n + 3)) (rs' := (18 * n + 18)) (by omega) (by omega) ?_
        exact c_L_law_b2349 hl (f_L_law_b23 G.2.2.2.2.1 G.2.2.2.2.2 n) ih h
      rw [if_neg hc39] at h
      by_cases hc40 : (r2 &&& (63 : Int32)) = (37 : Int32)
      · rw [if_pos hc40] at h
        refine hs_tblC (tgt := 2362) (off := 2323) (37 : Int32) dL_law_39 hc40 (by decide) (by decide) (by decide) (by decide) ?_
        refine hs_sub (lv' := [(0, .retAddr 0), (1, .ref x1), (2, .ref x2), (3, .ref x3), (4, .int x4)]) [0, 1, 2, 3, 4] rfl ?_
        refine hs_weak (rc' := (3 * n + 3)) (rs' := (18 * n + 18)) (by omega) (by omega) ?_
        exact c_L_law_b2362 hl (f_L_law_b23 G.2.2.2.2.1 G.2.2.2.2.2 n) ih h
      rw [if_neg hc40] at h
      by_cases hc41 : (r2 &&& (63 : Int32)) = (38 : Int32)
      · rw [if_pos hc41] at h
        refine hs_tblC (tgt := 2375) (off := 2336) (38 : Int32) dL_law_39 hc41 (by decide) (by decide) (by decide) (by decide) ?_
        refine hs_sub (lv' := [(0, .retAddr 0), (1, .ref x1), (2, .ref x2), (3, .ref x3), (4, .int x4)]) [0, 1, 2, 3, 4] rfl ?_
        refine hs_weak (rc' := (3 * n + 3)) (rs' := (18 * n + 18)) (by omega) (by omega) ?_
        exact c_L_law_b2375 hl (f_L_law_b23 G.2.2.2.2.1 G.2.2.2.2.2 n) ih h
      rw [if_neg hc41] at h
      by_cases hc42 : (r2 &&& (63 : Int32)) = (39 : Int32)
      · rw [if_pos hc42] at h
        refine hs_tblC (tgt := 2400) (off := 2361) (39 : Int32) dL_law_39 hc42 (by decide) (by decide) (by decide) (by decide) ?_
        refine hs_sub (lv' := [(0, .retAddr 0), (1, .ref x1), (2, .ref x2), (3, .ref x3), (4, .int x4)]) [0, 1, 2, 3, 4] rfl ?_
        refine hs_weak (rc' := (3 * n + 3)) (rs' := (18 * n + 18)) (by omega) (by omega) ?_
        exact c_L_law_b2400 hl (f_L_law_b23 G.2.2.2.2.1 G.2.2.2.2.2 n) ih h
      rw [if_neg hc42] at h
      by_cases hc43 : (r2 &&& (63 : Int32)) = (40 : Int32)
      · rw [if_pos hc43] at h
        refine hs_tblC (tgt := 2441) (off := 2402) (40 : Int32) dL_law_39 hc43 (by decide) (by decide) (by decide) (by decide) ?_
        refine hs_sub (lv' := [(0, .retAddr 0), (1, .ref x1), (2, .ref x2), (3, .ref x3), (4, .int x4)]) [0, 1, 2, 3, 4] rfl ?_
        refine hs_weak (rc' := (3 * n + 3)) (rs' := (18 * n + 18)) (by omega) (by omega) ?_
        exact c_L_law_b2441 hl (f_L_law_b23 G.2.2.2.2.1 G.2.2.2.2.2 n) ih h
      rw [if_neg hc43] at h
      by_cases hc44 : (r2 &&& (63 : Int32)) = (41 : Int32)
      · rw [if_pos hc44] at h
        refine hs_tblC (tgt := 2454) (off := 2415) (41 : Int32) dL_law_39 hc44 (by decide) (by decide) (by decide) (by decide) ?_
        refine hs_sub (lv' := [(0, .retAddr 0), (1, .ref x1), (2, .ref x2), (3, .ref x3), (4, .int x4)]) [0, 1, 2, 3, 4] rfl ?_
        refine hs_weak (rc' := (3 * n + 3)) (rs' := (18 * n + 18)) (by omega) (by omega) ?_
        exact c_L_law_b2454 hl (f_L_law_b23 G.2.2.2.2.1 G.2.2.2.2.2 n) ih h
      rw [if_neg hc44] at h
      by_cases hc45 : (r2 &&& (63 : Int32)) = (42 : Int32)
      · rw [if_pos hc45] at h
        refine hs_tblC (tgt := 2510) (off := 2471) (42 : Int32) dL_law_39 hc45 (by decide) (by decide) (by decide) (by decide) ?_
        refine hs_sub (lv' := [(0, .retAddr 0), (1, .ref x1), (2, .ref x2), (3, .ref x3), (4, .int x4)]) [0, 1, 2, 3, 4] rfl ?_
        refine hs_weak (rc' := (3 * n + 3)) (rs' := (18 * n + 18)) (by omega) (by omega) ?_
        exact c_L_law_b2510 hl (f_L_law_b23 G.2.2.2.2.1 G.2.2.2.2.2 n) ih h
      rw [if_neg hc45] at h
      by_cases hc46 : (r2 &&& (63 : Int32)) = (43 : Int32)
      · rw [if_pos hc46] at h
        refine hs_tblC (tgt := 2578) (off := 2539) (43 : Int32) dL_law_39 hc46 (by decide) (by decide) (by decide) (by decide) ?_
        refine hs_sub (lv' := [(0, .retAddr 0), (1, .ref x1), (2, .ref x2), (3, .ref x3), (4, .int x4)]) [0, 1, 2, 3, 4] rfl ?_
        refine hs_weak (rc' := (3 * n + 3)) (rs' := (18 * n + 18)) (by omega) (by omega) ?_
        exact c_L_law_b2578 hl (f_L_law_b23 G.2.2.2.2.1 G.2.2.2.2.2 n) ih h
      rw [if_neg hc46] at h
      by_cases hc47 : (r2 &&& (63 : Int32)) = (44 : Int32)
      · rw [if_pos hc47] at h
        refine hs_tblC (tgt := 2646) (off := 2607) (44 : Int32) dL_law_39 hc47 (by decide) (by decide) (by decide) (by decide) ?_
        refine hs_sub (lv' := [(0, .retAddr 0), (1, .ref x1), (2, .ref x2), (3, .ref x3), (4, .int x4)]) [0, 1, 2, 3, 4] rfl ?_
        refine hs_weak (rc' := (3 * n + 3)) (rs' := (18 * n + 18)) (by omega) (by omega) ?_
        exact c_L_law_b2646 hl (f_L_law_b23 G.2.2.2.2.1 G.2.2.2.2.2 n) ih h
      rw [if_neg hc47] at h
      by_cases hc48 : (r2 &&& (63 : Int32)) = (45 : Int32)
      · rw [if_pos hc48] at h
        refine hs_tblC (tgt := 2690) (off := 2651) (45 : Int32) dL_law_39 hc48 (by decide) (by decide) (by decide) (by decide) ?_
        refine hs_sub (lv' := [(0, .retAddr 0), (1, .ref x1), (2, .ref x2), (3, .ref x3), (4, .int x4)]) [0, 1, 2, 3, 4] rfl ?_
        refine hs_weak (rc' := (3 * n + 3)) (rs' := (18 * n + 18)) (by omega) (by omega) ?_
        exact c_L_law_b2690 hl (f_L_law_b23 G.2.2.2.2.1 G.2.2.2.2.2 n) ih h
      rw [if_neg hc48] at h
      refine hs_tblD (tgt := 2704) [(0 : Int32), (1 : Int32), (2 : Int32), (3 : Int32), (4 : Int32), (5 : Int32), (6 : Int32), (7 : Int32), (8 : Int32), (9 : Int32), (10 : Int32), (11 : Int32), (12 : Int32), (13 : Int32), (14 : Int32), (15 : Int32), (16 : Int32), (17 : Int32), (18 : Int32), (19 : Int32), (20 : Int32), (21 : Int32), (22 : Int32), (23 : Int32), (24 : Int32), (25 : Int32), (26 : Int32), (27 : Int32), (28 : Int32), (29 : Int32), (30 : Int32), (31 : Int32), (32 : Int32), (33 : Int32), (34 : Int32), (35 : Int32), (36 : Int32), (37 : Int32), (38 : Int32), (39 : Int32), (40 : Int32), (41 : Int32), (42 : Int32), (43 : Int32), (44 : Int32), (45 : Int32)] dL_law_39 (by simp only [List.mem_cons, List.not_mem_nil, or_false, forall_eq_or_imp, forall_eq]; exact ⟨hc3, hc4, hc5, hc6, hc7, hc8, hc9, hc10, hc11, hc12, hc13, hc14, hc15, hc16, hc17, hc18, hc19, hc20, hc21, hc22, hc23, hc24, hc25, hc26, hc27, hc28, hc29, hc30, hc31, hc32, hc33, hc34, hc35, hc36, hc37, hc38, hc39, hc40, hc41, hc42, hc43, hc44, hc45, hc46, hc47, hc48⟩) (by decide) (by decide) (by decide) ?_
      refine hs_sub (lv' := [(0, .retAddr 0), (1, .ref x1), (2, .ref x2), (3, .ref x3), (4, .int x4)]) [0, 1, 2, 3, 4] rfl ?_
      refine hs_weak (rc' := (3 * n)) (rs' := (18 * n)) (by omega) (by omega) ?_
      exact c_L_law_b2704 hl (f_L_law_b23 G.2.2.2.2.1 G.2.2.2.2.2 n) ih h
set_option maxHeartbeats 4000000 in
set_option maxRecDepth 20000 in
theorem c_L_law {G : hb_G} {l : Launch} (hl : l.stackTraces = false) {σ : hb_M} {r : (Int32 × hb_M)} (h : f_L_law G.2.2.2.2.1 G.2.2.2.2.2 σ = some r) : hb_T G l false mL_law 83 601024 7293034 0 [(0, .retAddr 0)] [] σ (.inl (some (.int r.1)), r.2) := by
  unfold f_L_law at h
  obtain ⟨r1, h1, h⟩ := hb_bind h
  refine hs_newO (rc := 601023) (rs := 7293025) (N := 9) (ci := 8) (C := RX8) (T := TX8) dL_law_0 rfl (by decide +kernel) wd_29 wd_30 wd_1 h1 ?_
  refine hs_dup dL_law_3 rfl ?_
  obtain ⟨r2, h2, h⟩ := hb_bind h
  refine hs_callIv (mc := 129) (ms := 6818) (rc := 600894) (rs := 7286207) (y9 := yX8_init) (cc9 := cX8_init) (nL9 := 2) (As := []) (rest := [.ref r1.1]) dL_law_4 (Or.inl lmL_130) okX8_init rfl (by decide) rfl (Nat.le_of_ble_eq_true rfl) (c_X8_init h2) ?_
  refine hs_astore_n (lv' := [(1, .ref r1.1), (0, .retAddr 0)]) dL_law_7 (by decide) rfl ?_
  obtain ⟨r3, h3, h⟩ := hb_bind h
  refine hs_newO (rc := 600893) (rs := 7286178) (N := 29) (ci := 9) (C := RX9) (T := TX9) dL_law_8 rfl (by decide +kernel) wd_1318 wd_1319 wd_11 h3 ?_
  refine hs_dup dL_law_11 rfl ?_
  obtain ⟨r4, h4, h⟩ := hb_bind h
  refine hs_callIv (mc := 17) (ms := 6069) (rc := 600876) (rs := 7280109) (y9 := yX9_init) (cc9 := cX9_init) (nL9 := 1) (As := []) (rest := [.ref r3.1]) dL_law_12 (Or.inl lmL_133) okX9_init rfl (by decide) rfl (Nat.le_of_ble_eq_true rfl) (c_X9_init h4) ?_
  refine hs_astore_n (lv' := [(2, .ref r3.1), (1, .ref r1.1), (0, .retAddr 0)]) dL_law_15 (by decide) rfl ?_
  refine hs_iconst (v := (1 : Int32)) dL_law_16 (by decide) ?_
  obtain ⟨r5, h5, h⟩ := hb_bind h
  refine hs_newL (rc := 600875) (rs := 7280108) (k := 1) dL_law_17 wd_183 h5 (by decide) ?_
  refine hs_astore_n (lv' := [(3, .ref r5.1), (2, .ref r3.1), (1, .ref r1.1), (0, .retAddr 0)]) dL_law_19 (by decide) rfl ?_
  refine hs_iconst (v := (0 : Int32)) dL_law_20 (by decide) ?_
  refine hs_istore (lv' := [(4, .int (0 : Int32)), (3, .ref r5.1), (2, .ref r3.1), (1, .ref r1.1), (0, .retAddr 0)]) dL_law_21 (by decide) rfl ?_
  refine hs_sub (lv' := [(0, .retAddr 0), (1, .ref r1.1), (2, .ref r3.1), (3, .ref r5.1), (4, .int (0 : Int32))]) [4, 3, 2, 1, 0] rfl ?_
  refine hs_seal (rc' := 3 * 600) (rs' := 18 * 600) rfl (by decide) (by decide) ?_
  exact c_L_law_b23 hl 600 _ _ _ _ _ _ h
