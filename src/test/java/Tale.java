/** All that can be asked of a house without a finding, but found() and place(), as one text, with few calls. */
final class Tale {
    private Tale() {
    }

    static String of(StillHouse x) {
        StringBuilder text = new StringBuilder();
        ofKinds(x, text);
        ofLatestAct(x, text);
        return text.append(ofStores(x)).toString();
    }

    /** Apparatus, records and sums: what undo() takes back. */
    static String ofStores(StillHouse x) {
        StringBuilder text = new StringBuilder(" apparatus");
        int apparatus = x.count(2);
        for (int app = 0; app < apparatus; app++) {
            for (int what = 0; what < 4; what++) {
                text.append(' ').append(x.apparatus(app, what));
            }
        }
        text.append(" records");
        int records = x.count(3);
        for (int i = 0; i < records; i++) {
            for (int what = 0; what < 3; what++) {
                text.append(' ').append(x.record(i, what));
            }
        }
        text.append(" all");
        for (int what = 0; what < 7; what++) {
            text.append(' ').append(x.all(what));
        }
        return text.toString();
    }

    private static void ofKinds(StillHouse x, StringBuilder text) {
        text.append(" packs ").append(x.count(1)).append(" kinds");
        int kinds = x.count(0);
        for (int k = 0; k < kinds; k++) {
            for (int what = 0; what < 5; what++) {
                text.append(' ').append(x.kind(k, what));
            }
            int hooks = x.kind(k, 3);
            for (int hook = 0; hook < 6; hook++) {
                if ((hooks >> hook & 1) == 1) {
                    text.append(" body");
                    for (int what = 0; what < 3; what++) {
                        text.append(' ').append(x.body(k, hook, what));
                    }
                }
            }
        }
    }

    private static void ofLatestAct(StillHouse x, StringBuilder text) {
        text.append(" outcome");
        for (int what = 0; what < 4; what++) {
            text.append(' ').append(x.outcome(what));
        }
        int bodies = x.outcome(1);
        for (int i = 0; i < bodies; i++) {
            for (int what = 0; what < 3; what++) {
                text.append(' ').append(x.ran(i, what));
            }
        }
        int told = x.outcome(2);
        for (int i = 0; i < told; i++) {
            text.append(' ').append(x.said(i));
        }
    }
}
