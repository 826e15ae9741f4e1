/** All that can be asked of an object, as one text, to see whether two states are the same. */
final class Picture {
    private Picture() {
    }

    static String of(SheetVault vault) {
        StringBuilder text = new StringBuilder();
        text.append("sheets ").append(vault.sheets());
        for (int sheet = 0; sheet < vault.sheets(); sheet++) {
            text.append("\nsheet ").append(sheet).append(" versions ").append(vault.versions(sheet));
            for (int version = 0; version < 16; version++) {
                addVersion(text, vault, sheet, version);
            }
            for (int group = 0; group < 4; group++) {
                text.append("\n class ").append(group).append(" head ").append(vault.head(group, sheet));
                text.append(" average ").append(vault.average(group, sheet));
            }
            for (int pupil = 0; pupil < 12; pupil++) {
                addAnswer(text, vault, sheet, pupil);
            }
            addPairs(text, vault, sheet);
        }
        for (int group = 0; group < 4; group++) {
            text.append("\nclass ").append(group).append(" used ").append(vault.used(group));
            text.append(" anew ").append(vault.usedAnew(group));
        }
        return text.toString();
    }

    private static void addVersion(StringBuilder text, SheetVault vault, int sheet, int version) {
        int parent;
        try {
            parent = vault.parent(sheet, version);
        } catch (IndexOutOfBoundsException e) {
            return;
        }
        text.append("\n version ").append(version).append(" parent ").append(parent);
        text.append(" points ").append(vault.points(sheet, version));
        for (int task = 0; task < 5; task++) {
            text.append(" task ").append(vault.kindOf(sheet, version, task));
            text.append(" in ").append(vault.toldIn(sheet, version, task));
        }
    }

    private static void addAnswer(StringBuilder text, SheetVault vault, int sheet, int pupil) {
        text.append("\n pupil ").append(pupil).append(" answer ").append(vault.answer(pupil, sheet));
        text.append(" mark ").append(vault.mark(pupil, sheet)).append(" due ").append(vault.due(pupil, sheet));
        text.append(" told ").append(vault.told(pupil, sheet));
        text.append(" prints ").append(vault.fingerprints(pupil, sheet)).append(" like");
        for (int other = 0; other < 12; other++) {
            text.append(' ').append(vault.likeness(sheet, pupil, other));
        }
    }

    private static void addPairs(StringBuilder text, SheetVault vault, int sheet) {
        int pairs = vault.pairs(sheet);
        text.append("\n pairs ").append(pairs).append(" anew ").append(vault.pairsAnew(sheet));
        for (int place = 0; place < pairs; place++) {
            text.append(' ').append(vault.pairAt(sheet, place));
        }
    }
}
