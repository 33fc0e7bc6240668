/** What an object tells of its state, as one text: what must be the same behind a call that changes nothing. */
final class Picture {
    private Picture() {
    }

    /** All that WORK changes, and how many WORKS can be undone. */
    static String ofWork(FarthestHeir h) {
        StringBuilder text = new StringBuilder();
        for (int what = 0; what <= 7; what++) {
            text.append(what == 0 ? "told " : ",").append(h.told(what));
        }
        for (int p = 0; p < h.told(0); p++) {
            for (int what = 0; what <= 8; what++) {
                text.append(what == 0 ? " person " : ",").append(h.person(p, what));
            }
        }
        return text.append(" works ").append(h.count(2)).toString();
    }

    /** The same with the LAW, the BOOK, the land and the IMAGES, as far as they can be seen. */
    static String ofAll(FarthestHeir h) {
        StringBuilder text = new StringBuilder(ofWork(h));
        text.append(" land ").append(h.told(8)).append(" lines ").append(h.told(9)).append(" refused ").append(h.told(10));
        text.append(" law ").append(h.would(1, 2, 4, 1, 5, 6, 7, 8)).append(',').append(h.would(9, 0, 3, 0, 40, 1, 2, 0));
        text.append(" like ").append(h.like(0)).append(',').append(h.like(1));
        return text.append(" images ").append(h.count(0)).toString();
    }

    /** The same with the TAPE and the FAULT. */
    static String withTape(FarthestHeir h) {
        return ofAll(h) + " tape " + h.count(1) + " fault " + h.fault();
    }
}
