import java.io.IOException;
import java.nio.file.Files;
import java.nio.file.Path;
import java.util.ArrayList;
import java.util.Comparator;
import java.util.LinkedHashMap;
import java.util.List;
import java.util.Map;
import java.util.regex.Matcher;
import java.util.regex.Pattern;
import java.util.stream.Stream;

/**
 * Every sentence of the document, from what the class is to the last promise, has a test: each test
 * says by 'of' which words it is about, and no words of the document are left without one. The face
 * has its own test, and 'Not promised' asks for nothing.
 */
public final class SentencesTest {
    private static final Path DOCUMENT = Path.of("../shared/DOC.md");
    private static final Path TESTS = Path.of("src/test/java");
    private static final Pattern QUOTE =
            Pattern.compile("\\bDUE\\.of\\(((?:\\s*\\+?\\s*\"(?:[^\"\\\\])*\")+)\\s*\\)");
    private static final Pattern LITERAL = Pattern.compile("\"([^\"]*)\"");
    private static final Due DUE = new Due();

    public static void main(String[] args) throws IOException {
        if (!Files.exists(DOCUMENT)) {
            System.out.println("there is no " + DOCUMENT + " to hold the tests against");
            return;
        }
        Map<String, String> chapters = chapters(Files.readString(DOCUMENT));
        DUE.same("chapters", chapters.size(), 20);
        try (Stream<Path> files = Files.list(TESTS)) {
            for (Path file : files.filter(f -> f.toString().endsWith("Test.java")).sorted().toList()) {
                strike(chapters, file);
            }
        }
        for (Map.Entry<String, String> chapter : chapters.entrySet()) {
            for (String rest : chapter.getValue().split("\\|")) {
                if (!rest.isBlank()) {
                    DUE.wrong(chapter.getKey() + " has words without a test: " + rest.strip());
                }
            }
        }
        DUE.end();
    }

    /** The chapters that ask for something in words, each as one line without its marks. */
    private static Map<String, String> chapters(String document) {
        Map<String, String> all = new LinkedHashMap<>();
        for (String chapter : document.split("(?m)^## ")) {
            String[] parts = chapter.split("\n", 2);
            if (parts[0].matches("What it is|Terms|Promise \\d+: .*")) {
                String text = parts[1].replaceAll("(?m)^```.*$", "").replaceAll("(?m)^`[^`]*`:", "");
                all.put(parts[0].split(":")[0], text.replaceAll("\\s+", " "));
            }
        }
        return all;
    }

    private static String chapterOf(Path file) {
        Matcher promise = Pattern.compile("Promise(\\d\\d)").matcher(file.getFileName().toString());
        if (promise.find()) {
            return "Promise " + Integer.parseInt(promise.group(1));
        }
        return file.endsWith("WhatItIsTest.java") ? "What it is" : "Terms";
    }

    private static void strike(Map<String, String> chapters, Path file) throws IOException {
        String chapter = chapterOf(file);
        List<String> quotes = quotes(Files.readString(file));
        quotes.sort(Comparator.comparing(String::length).reversed());
        for (String quote : quotes) {
            String text = chapters.get(chapter);
            if (!text.contains(quote)) {
                DUE.wrong(file.getFileName() + " quotes what " + chapter + " does not have: " + quote);
            }
            chapters.put(chapter, text.replace(quote, "|"));
        }
    }

    private static List<String> quotes(String source) {
        List<String> all = new ArrayList<>();
        Matcher quote = QUOTE.matcher(source);
        while (quote.find()) {
            StringBuilder whole = new StringBuilder();
            Matcher literal = LITERAL.matcher(quote.group(1));
            while (literal.find()) {
                whole.append(literal.group(1));
            }
            if (!whole.isEmpty()) {
                all.add(whole.toString());
            }
        }
        return all;
    }
}
